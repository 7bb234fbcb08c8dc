/-! laid aside and back; places -/
section AB
variable {M : ir_M} {K : Nat → Int32} {d s : Nat}
theorem q_eq.dr {a : Nat} {S : List Nat} {A B : ir_M} (h : q_eq (a :: S) A B) (e : B.1 a = A.1 a) : q_eq S A B := ⟨fun x hx => by
  by_cases q : x = a
  · rw [q]; exact e
  · exact h.1 x (fun w => by
      rcases List.mem_cons.mp w with w | w
      · exact q w
      · exact hx w), h.2⟩
theorem r_aside (hp : q_PI M) {lv : Nat} (hl : lv < 4) : ∃ M', m_X12_aside (d + 1) 412 (nI lv) M = ir_oV M' ∧ q_eq [421] M M' ∧ ∀ k, k < 44 → ir_I M' 421 (44 * lv + k) = ir_I M 413 (9 + k) := by
  have L := q_up (σ := ir_M) (V := fun x t => v_X12_aside_2 d 412 (nI lv) (nI x) t) (N := 44) (I := fun x t => q_eq [421] M t ∧ ∀ k, k < x → ir_I t 421 (44 * lv + k) = ir_I M 413 (9 + k)) (K := ir_oV) (by
    rintro x t hx ⟨hq, ht⟩
    have hpt := q_PI_eq hq hp
    refine ⟨ir_sI t 421 (44 * lv + x) (ir_I M 413 (9 + x)), ⟨hq.tr (q_eq.sI (by decide)), fun k hk => ?_⟩, ?_⟩
    · rw [q_I_u]
      by_cases q : k = x
      · rw [if_pos (by omega), q]
      · rw [if_neg (by omega)]
        exact ht k (by omega)
    · rw [L_X12_aside_2]
      simp (disch := omega) only [q_ckt, q_lt, q_cI, q_cJ, q_cV, q_cP, q_xI, q_xV, q_xP, q_xJ, g_gk, g_ga, g_gw, g_gp, g_gq, g_P, g_J, q_I_s, q_I_n, q_I_k, nI_add, pk_sub, pk_mul, nI_clamp, n_lt0, n_0lt, n_eq0, n_lt, n_le, n_eq, n_m1, n_m2, n_m9, n_12, n_19, n_10, n_01, n_1n1, n_0n1, n_1n0, n_0n0, n_dI, n_m1lt, q_inb, n_nar, n_nar0, n_nar1, n_bool, Bool.false_eq_true, Bool.true_eq_false, if_true, if_false, ↓reduceIte, Nat.reduceAdd, Nat.reduceMul, Nat.reduceSub, Nat.reduceLT, Nat.reduceLeDiff, Nat.reduceEqDiff, Nat.reduceMod, Nat.reduceDiv, q_R hpt, hx, q_I_eq hq (show 413 ∉ [421] by decide)]) (by
    rintro t ⟨hq, ht⟩
    rw [L_X12_aside_2]
    simp (disch := omega) only [q_ckt, q_lt, q_cI, q_cJ, q_cV, q_cP, q_xI, q_xV, q_xP, q_xJ, g_gk, g_ga, g_gw, g_gp, g_gq, g_P, g_J, q_I_s, q_I_n, q_I_k, nI_add, pk_sub, pk_mul, nI_clamp, n_lt0, n_0lt, n_eq0, n_lt, n_le, n_eq, n_m1, n_m2, n_m9, n_12, n_19, n_10, n_01, n_1n1, n_0n1, n_1n0, n_0n0, n_dI, n_m1lt, q_inb, n_nar, n_nar0, n_nar1, n_bool, Bool.false_eq_true, Bool.true_eq_false, if_true, if_false, ↓reduceIte, Nat.reduceAdd, Nat.reduceMul, Nat.reduceSub, Nat.reduceLT, Nat.reduceLeDiff, Nat.reduceEqDiff, Nat.reduceMod, Nat.reduceDiv]) (i := 0) (t := M) (by omega) ⟨q_eq.rf _ _, fun k hk => absurd hk (by omega)⟩
  obtain ⟨t, ⟨hq, ht⟩, ee⟩ := L
  exact ⟨t, (E_X12_aside d 412 _ M).trans ee, hq, ht⟩
theorem r_back (hp : q_PI M) {lv : Nat} (hl : lv < 4) : ∃ M', m_X12_back (d + 1) 412 (nI lv) M = ir_oV M' ∧ q_eq [413] M M' ∧ ∀ k, ir_I M' 413 k = if 9 ≤ k ∧ k < 53 then ir_I M 421 (44 * lv + (k - 9)) else ir_I M 413 k := by
  have L := q_up (σ := ir_M) (V := fun x t => v_X12_back_2 d 412 (nI lv) (nI x) t) (N := 44) (I := fun x t => q_eq [413] M t ∧ ∀ k, ir_I t 413 k = if 9 ≤ k ∧ k < 9 + x then ir_I M 421 (44 * lv + (k - 9)) else ir_I M 413 k) (K := ir_oV) (by
    rintro x t hx ⟨hq, ht⟩
    have hpt := q_PI_eq hq hp
    refine ⟨ir_sI t 413 (9 + x) (ir_I M 421 (44 * lv + x)), ⟨hq.tr (q_eq.sI (by decide)), fun k => ?_⟩, ?_⟩
    · rw [q_I_u, ht]
      by_cases q : k = 9 + x
      · rw [if_pos q, if_pos (by omega), show k - 9 = x by omega]
      · rw [if_neg q]
        by_cases q2 : 9 ≤ k ∧ k < 9 + x
        · rw [if_pos q2, if_pos (by omega)]
        · rw [if_neg q2, if_neg (by omega)]
    · rw [L_X12_back_2]
      simp (disch := omega) only [q_ckt, q_lt, q_cI, q_cJ, q_cV, q_cP, q_xI, q_xV, q_xP, q_xJ, g_gk, g_ga, g_gw, g_gp, g_gq, g_P, g_J, q_I_s, q_I_n, q_I_k, nI_add, pk_sub, pk_mul, nI_clamp, n_lt0, n_0lt, n_eq0, n_lt, n_le, n_eq, n_m1, n_m2, n_m9, n_12, n_19, n_10, n_01, n_1n1, n_0n1, n_1n0, n_0n0, n_dI, n_m1lt, q_inb, n_nar, n_nar0, n_nar1, n_bool, Bool.false_eq_true, Bool.true_eq_false, if_true, if_false, ↓reduceIte, Nat.reduceAdd, Nat.reduceMul, Nat.reduceSub, Nat.reduceLT, Nat.reduceLeDiff, Nat.reduceEqDiff, Nat.reduceMod, Nat.reduceDiv, q_R hpt, hx, q_I_eq hq (show 421 ∉ [413] by decide)]) (by
    rintro t ⟨hq, ht⟩
    rw [L_X12_back_2]
    simp (disch := omega) only [q_ckt, q_lt, q_cI, q_cJ, q_cV, q_cP, q_xI, q_xV, q_xP, q_xJ, g_gk, g_ga, g_gw, g_gp, g_gq, g_P, g_J, q_I_s, q_I_n, q_I_k, nI_add, pk_sub, pk_mul, nI_clamp, n_lt0, n_0lt, n_eq0, n_lt, n_le, n_eq, n_m1, n_m2, n_m9, n_12, n_19, n_10, n_01, n_1n1, n_0n1, n_1n0, n_0n0, n_dI, n_m1lt, q_inb, n_nar, n_nar0, n_nar1, n_bool, Bool.false_eq_true, Bool.true_eq_false, if_true, if_false, ↓reduceIte, Nat.reduceAdd, Nat.reduceMul, Nat.reduceSub, Nat.reduceLT, Nat.reduceLeDiff, Nat.reduceEqDiff, Nat.reduceMod, Nat.reduceDiv]) (i := 0) (t := M) (by omega) ⟨q_eq.rf _ _, fun k => by rw [if_neg (by omega)]⟩
  obtain ⟨t, ⟨hq, ht⟩, ee⟩ := L
  exact ⟨t, (E_X12_back d 412 _ M).trans ee, hq, ht⟩
/-- aside, something, back -/
theorem r_ab {M1 M3 : ir_M} {S : List Nat} {lv : Nat} (h : r_rl M K) (hl : lv < 4) (q1 : q_eq [421] M M1) (a1 : ∀ k, k < 44 → ir_I M1 421 (44 * lv + k) = ir_I M 413 (9 + k)) (q3 : q_eq (413 :: S) M1 M3) (hS : 421 ∉ 413 :: S) (k3 : ∀ k, ¬ (9 ≤ k ∧ k < 53) → ir_I M3 413 k = K k) : ∃ M', m_X12_back (d + 1) 412 (nI lv) M3 = ir_oV M' ∧ q_eq (421 :: S) M M' ∧ q_eq [413] M3 M' := by
  have p3 := q_PI_eq q3 (q_PI_eq q1 h.1)
  obtain ⟨M', e, q4, a4⟩ := r_back (d := d) p3 hl
  refine ⟨M', e, q_eq.dr (a := 413) ?_ (funext fun k => ?_), q4⟩
  · exact ((q1.sub (by simp)).tr (q3.sub (fun a ha => by
      rcases List.mem_cons.mp ha with w | w
      · rw [w]; simp
      · simp [w]))).tr (q4.sub (by simp))
  · show ir_I M' 413 k = ir_I M 413 k
    rw [a4, h.2.2]
    by_cases q : 9 ≤ k ∧ k < 53
    · rw [if_pos q, q_I_eq q3 hS, a1 _ (by omega), h.2.2, show 9 + (k - 9) = k by omega]
    · rw [if_neg q]
      exact k3 k q
theorem k_sh_on {j i x m : Nat} (hj : j < m) (hi : i < m) (hx : x < m) : ∃ y, y < m ∧ k_sh j i y = x := by
  refine ⟨if x = j then i else if j < x ∧ x ≤ i then x - 1 else if i ≤ x ∧ x < j then x + 1 else x, ?_, ?_⟩
  · split
    · exact hi
    · split
      · omega
      · split <;> omega
  · unfold k_sh
    by_cases q1 : x = j
    · rw [if_pos q1, if_pos rfl, q1]
    · rw [if_neg q1]
      by_cases q2 : j < x ∧ x ≤ i
      · rw [if_pos q2, if_neg (by omega), if_pos (by omega)]
        omega
      · rw [if_neg q2]
        by_cases q3 : i ≤ x ∧ x < j
        · rw [if_pos q3, if_neg (by omega), if_neg (by omega), if_pos (by omega)]
          omega
        · rw [if_neg q3, if_neg (by omega), if_neg (by omega), if_neg (by omega)]
theorem k_pl_mov (h : k_ok K) {j i p x : Nat} (hj : j < k_m K) (hi : i < k_m K) (hx : k_pl K p = some x) : ∃ y, y < k_m K ∧ k_pl (k_mov K j i) p = some y := by
  obtain ⟨ok, em, eq⟩ := k_mov_ok h hj hi
  obtain ⟨hx1, hx2⟩ := k_pl_some hx
  obtain ⟨y, hy, ey⟩ := k_sh_on hj hi hx1
  refine ⟨y, hy, ?_⟩
  have := k_pl_q ok (j := y) (by omega)
  rw [eq y hy, ey, hx2] at this
  exact this
theorem k_pl_mvs (h : k_ok K) {j i : Nat} (hj : j < k_m K) (hi : i < k_m K) : k_pl (k_mov K j i) (k_q K j) = some i := by
  obtain ⟨ok, em, eq⟩ := k_mov_ok h hj hi
  have := k_pl_q ok (j := i) (by omega)
  rw [eq i hi, show k_sh j i i = j from if_pos rfl] at this
  exact this
theorem k_mov_self (h : k_ok K) {i : Nat} (hi : i < k_m K) : k_mov K i i = K := funext fun k => by
  have hb := k_bds h
  by_cases q : 10 ≤ k ∧ k < 10 + k_m K
  · obtain ⟨x, rfl⟩ : ∃ x, k = 10 + x := ⟨k - 10, by omega⟩
    rw [k_mov_q h hi hi (by omega), (k_use h).2.2.2.2.2.1 x (by omega)]
    unfold k_sh
    by_cases q1 : x = i
    · rw [if_pos q1, q1]
    · rw [if_neg q1, if_neg (by omega), if_neg (by omega)]
  · by_cases q9 : k = 9
    · rw [q9, k_mov_9 h hi, (k_use h).2.2.2.1]
    · have em := k_m_out (i := i) (show k_m K ≤ 8 by omega)
      unfold k_mov k_inn
      rw [em, if_neg q9, if_neg (by omega), if_neg (by omega)]
      unfold k_out
      rw [if_neg q9, if_neg (by omega), if_neg (by omega)]
def k_wm (K : Nat → Int32) (j i y : Nat) : Int32 := k_fw (k_mov K j i) (k_td (k_mov K j i)) y
theorem k_mov_n (h : k_ok K) {j i : Nat} (hj : j < k_m K) (hi : i < k_m K) : k_n (k_mov K j i) = k_n K := by unfold k_n; rw [k_mov_o h hj hi (by omega)]
theorem r_fallsIf (h : r_rl M K) {p j i y : Nat} (hp : p < k_n K) (hj : j < k_m K) (hi : i < k_m K) (hy : k_pl (k_mov K j i) p = some y) : ∃ M', m_X12_fallsIf (d + 8) 412 (nI p) (nI (k_q K j)) (nI i) M = ir_oI (k_wm K j i y) M' ∧ q_eq [421, 418, 419, 420] M M' := by
  obtain ⟨M1, e1, q1, a1⟩ := r_aside (d := d + 6) h.1 (lv := 1) (by decide)
  have u1 := r_rl_eq h q1 (by decide)
  obtain ⟨M2, e2, q2, a2⟩ := r_moves (d := d + 4) u1 hj hi
  have ok2 := (k_mov_ok h.2.1 hj hi).1
  have u2 : r_rl M2 (k_mov K j i) := ⟨q_PI_eq q2 u1.1, ok2, a2⟩
  obtain ⟨M3, e3, q3⟩ := r_todayTo (d := d) u2 (p := p) (by rw [k_mov_n h.2.1 hj hi]; exact hp) hy
  have q13 : q_eq [413, 418, 419, 420] M1 M3 := (q2.sub (by decide)).tr (q3.sub (by decide))
  obtain ⟨M4, e4, q4, -⟩ := r_ab (d := d + 6) h (by decide) q1 a1 q13 (by decide) (fun k hk => by rw [q_I_eq q3 (by decide), a2, k_mov_o h.2.1 hj hi (by omega)])
  refine ⟨M4, ?_, q4⟩
  rw [E_X12_fallsIf]
  simp (disch := omega) only [q_ckt, q_lt, q_cI, q_cJ, q_cV, q_cP, q_xI, q_xV, q_xP, q_xJ, g_gk, g_ga, g_gw, g_gp, g_gq, g_P, g_J, q_I_s, q_I_n, q_I_k, nI_add, pk_sub, pk_mul, nI_clamp, n_lt0, n_0lt, n_eq0, n_lt, n_le, n_eq, n_m1, n_m2, n_m9, n_12, n_19, n_10, n_01, n_1n1, n_0n1, n_1n0, n_0n0, n_dI, n_m1lt, q_inb, n_nar, n_nar0, n_nar1, n_bool, Bool.false_eq_true, Bool.true_eq_false, if_true, if_false, ↓reduceIte, Nat.reduceAdd, Nat.reduceMul, Nat.reduceSub, Nat.reduceLT, Nat.reduceLeDiff, Nat.reduceEqDiff, Nat.reduceMod, Nat.reduceDiv, q_R h.1, e1, q_R u1.1, e2, q_R u2.1, e3, q_R (q_PI_eq q3 u2.1), e4]
  rfl
theorem c_wm (h : c_rl M 12 K) {j i : Nat} (hj : j < k_m K) (hi : i < k_m K) : ∃ M', m_X11_worthMoved (d + 6) 1 (nI j) (nI i) M = ir_oI (k_wm K j i i) M' ∧ q_eq [91, 92, 93, 94, 95, 96, 9, 117, 118, 120] M M' := by
  obtain ⟨M2, e2, t2, c2, r2⟩ := c_trial (d := d + 4) h
  obtain ⟨M3, e3, t3, r3⟩ := c_tsh (d := d + 4) r2 hj hi
  obtain ⟨ok3, m3, -⟩ := k_mov_ok h.2.2.1 hj hi
  obtain ⟨M4, e4, t4, b4, f4⟩ := c_run (d := d) r3
  have r4 := c_rl_eq r3 t4 (by decide)
  have v1 := c_wa (d := d + 3) r4 (show i < k_m (k_mov K j i) by omega) (f4 _ (by omega)) (k_td_gd ok3 (by omega))
  refine ⟨M4, ?_, ((t2.sub (by decide)).tr (t3.sub (by decide))).tr (t4.sub (by decide))⟩
  rw [E_X11_worthMoved]
  simp (disch := omega) only [q_ckt, q_lt, q_cI, q_cJ, q_cV, q_cP, q_xI, q_xV, q_xP, q_xJ, g_gk, g_ga, g_gw, g_gp, g_gq, g_P, g_J, q_I_s, q_I_n, q_I_k, nI_add, pk_sub, pk_mul, nI_clamp, n_lt0, n_0lt, n_eq0, n_lt, n_le, n_eq, n_m1, n_m2, n_m9, n_12, n_19, n_10, n_01, n_1n1, n_0n1, n_1n0, n_0n0, n_dI, n_m1lt, q_inb, n_nar, n_nar0, n_nar1, n_bool, Bool.false_eq_true, Bool.true_eq_false, if_true, if_false, ↓reduceIte, Nat.reduceAdd, Nat.reduceMul, Nat.reduceSub, Nat.reduceLT, Nat.reduceLeDiff, Nat.reduceEqDiff, Nat.reduceMod, Nat.reduceDiv, q_W h.1, q_S h.1 (a := 91) (by decide), e2, q_W c2.1, q_S c2.1 (a := 91) (by decide), e3, q_W r3.1, q_F r3.1, e4, q_W r4.1, q_F r4.1, v1]
  rfl
/-- what is worth at most 99 -/
theorem k_wb (hw : k_wf K) {p : Nat} {g : Int32} (hp : p < k_n K) (hg : k_gd K g) : -99 ≤ (k_wt K p g).toInt ∧ (k_wt K p g).toInt ≤ 99 := by
  have hb := k_bds hw.1
  obtain ⟨r, -, -, hr, -⟩ := hw.2.2.2
  unfold k_wt
  rcases hg with rfl | ⟨j, hj, rfl⟩
  · rw [if_pos rfl]
    decide +kernel
  · rw [if_neg (n_m (k := 1) (by decide +kernel) (by decide) (by omega)), nI_clamp (by omega)]
    exact hr _ (by omega) (by omega)
theorem k_sub3 {a b t : Int32} (ha : -99 ≤ a.toInt ∧ a.toInt ≤ 99) (hb : -99 ≤ b.toInt ∧ b.toInt ≤ 99) (ht : -99 ≤ t.toInt ∧ t.toInt ≤ 99) : (a - t < b - t) = (a < b) := by
  have s : ∀ x : Int32, -99 ≤ x.toInt ∧ x.toInt ≤ 99 → (x - t).toInt = x.toInt - t.toInt := fun x hx => by
    rw [Int32.toInt_sub]
    exact Int.bmod_eq_of_le (by omega) (by omega)
  rw [Int32.lt_iff_toInt_lt, Int32.lt_iff_toInt_lt, s a ha, s b hb]
  exact propext ⟨fun h => by omega, fun h => by omega⟩
theorem k_wmb (hw : k_wf K) {j i y : Nat} (hj : j < k_m K) (hi : i < k_m K) (hy : y < k_m K) : -99 ≤ (k_wm K j i y).toInt ∧ (k_wm K j i y).toInt ≤ 99 := by
  obtain ⟨ok, em, eq⟩ := k_mov_ok hw.1 hj hi
  have w2 := k_wf_st hw (fun k hk => k_mov_o hw.1 hj hi (by omega)) ok.2
  exact k_wb w2 (k_qn ok (by omega)) (k_td_gd ok (by omega))
/-- the first best one -/
def k_bx (f : Nat → Int32) : Nat → Nat
  | 0 => 0
  | n + 1 => if f (k_bx f n) < f (n + 1) then n + 1 else k_bx f n
theorem k_bx_le {f : Nat → Int32} : ∀ n, k_bx f n ≤ n
  | 0 => Nat.le_refl _
  | n + 1 => by
    unfold k_bx
    split
    · exact Nat.le_refl _
    · have := k_bx_le (f := f) n; omega
theorem k_rng_d {x : Int32} {n : Nat} {α : Type} {a b : α} (hn : n + 1 < 2 ^ 31) : (if x < 0 then b else if nI n < x then b else a) = if k_rng x (n + 1) = true then a else b := by
  have e0 : x < 0 ↔ x.toInt < 0 := Int32.lt_iff_toInt_lt
  have e1 : nI n < x ↔ (n : Int) < x.toInt := by rw [Int32.lt_iff_toInt_lt, nI_toInt (by omega)]
  by_cases h : k_rng x (n + 1) = true
  · rw [if_pos h]
    rw [k_rng_i] at h
    rw [if_neg (fun q => by have := e0.mp q; have := h.1; omega), if_neg (fun q => by have := e1.mp q; have := h.2; omega)]
  · rw [if_neg h]
    rw [k_rng_i] at h
    by_cases q : x < 0
    · rw [if_pos q]
    · rw [if_neg q, if_pos (e1.mpr (by have z : ¬ x.toInt < 0 := fun z => q (e0.mpr z); omega))]
theorem k_wir {x : Int32} {c : Int64} {n : Nat} (hc : c.toInt = (n : Int)) : ((0 : Int64).toInt ≤ x.toInt64.toInt ∧ x.toInt64.toInt ≤ c.toInt) = (k_rng x (n + 1) = true) := by
  rw [k_rng_i, Int32.toInt_toInt64, k_lim0, hc]
  exact propext ⟨fun h => ⟨h.1, by omega⟩, fun h => ⟨h.1, by omega⟩⟩
end AB
section AC
variable {L : Nat} {xs : Nat → Int32}
theorem r_priceOf {M : ir_M} {K : Nat → Int32} {d : Nat} (h : r_rl M K) {j i : Nat} (hj : j < k_m K) (hi : i < k_m K) : ∃ M', m_X12_priceOf (d + 9) 412 (nI (k_q K j)) (nI i) M = ir_oI (k_wm K j i i - k_fw K (k_td K) j) M' ∧ q_eq [421, 418, 419, 420] M M' := by
  have hq := k_qn h.2.1 hj
  obtain ⟨M1, e1, q1⟩ := r_fallsIf (d := d) h hq hj hi (k_pl_mvs h.2.1 hj hi)
  have u1 := r_rl_eq h q1 (by decide)
  obtain ⟨M2, e2, q2⟩ := r_todayTo (d := d + 1) u1 hq (k_pl_q h.2.1 hj)
  refine ⟨M2, ?_, q1.tr (q2.sub (by decide))⟩
  rw [E_X12_priceOf]
  simp (disch := omega) only [q_ckt, q_lt, q_cI, q_cJ, q_cV, q_cP, q_xI, q_xV, q_xP, q_xJ, g_gk, g_ga, g_gw, g_gp, g_gq, g_P, g_J, q_I_s, q_I_n, q_I_k, nI_add, pk_sub, pk_mul, nI_clamp, n_lt0, n_0lt, n_eq0, n_lt, n_le, n_eq, n_m1, n_m2, n_m9, n_12, n_19, n_10, n_01, n_1n1, n_0n1, n_1n0, n_0n0, n_dI, n_m1lt, q_inb, n_nar, n_nar0, n_nar1, n_bool, Bool.false_eq_true, Bool.true_eq_false, if_true, if_false, ↓reduceIte, Nat.reduceAdd, Nat.reduceMul, Nat.reduceSub, Nat.reduceLT, Nat.reduceLeDiff, Nat.reduceEqDiff, Nat.reduceMod, Nat.reduceDiv, q_R h.1, e1, q_R u1.1, e2]
theorem S_price (a b : Int32) : q_St L xs (q_Iv L xs) (m_L_price 200 1 a b 436) (m_X12_price 200 412 a b) := by
  refine q_St_mk (x := m_X11_price 199 1 a b) (fun M => E_L_price 199 1 a b 436 M) fun M hp hI => ?_
  have hc := c_I_c hp hI.1
  have hr := c_I_r hp hI.1
  generalize M.1 413 = K at hc hr
  have hb := k_bds hc.2.2.1
  by_cases ha : k_rng a (k_n K)
  · obtain ⟨p, hpn, rfl⟩ := k_rng_of ha (by omega)
    cases e : k_pl K p with
    | none =>
      refine Or.inr ⟨2, 2, by omega, by omega, ?_, fun _ => rfl, fun M' s => ⟨nI 0, _, ?_, q_st_4 s.1.1 (k := 4) (v := nI 2) rfl, rfl, q_I_s⟩⟩
      · rw [E_X11_price 198]
        simp (disch := omega) only [q_ckt, q_lt, q_cI, q_cJ, q_cV, q_cP, q_xI, q_xV, q_xP, q_xJ, g_gk, g_ga, g_gw, g_gp, g_gq, g_P, g_J, q_I_s, q_I_n, q_I_k, nI_add, pk_sub, pk_mul, nI_clamp, n_lt0, n_0lt, n_eq0, n_lt, n_le, n_eq, n_m1, n_m2, n_m9, n_12, n_19, n_10, n_01, n_1n1, n_0n1, n_1n0, n_0n0, n_dI, n_m1lt, q_inb, n_nar, n_nar0, n_nar1, n_bool, Bool.false_eq_true, Bool.true_eq_false, if_true, if_false, ↓reduceIte, Nat.reduceAdd, Nat.reduceMul, Nat.reduceSub, Nat.reduceLT, Nat.reduceLeDiff, Nat.reduceEqDiff, Nat.reduceMod, Nat.reduceDiv, q_W hp, c_np hc, ha, c_ns hc hpn, e]
      · have hr' := q_st_r s hr
        rw [E_X12_price 199]
        simp (disch := omega) only [q_ckt, q_lt, q_cI, q_cJ, q_cV, q_cP, q_xI, q_xV, q_xP, q_xJ, g_gk, g_ga, g_gw, g_gp, g_gq, g_P, g_J, q_I_s, q_I_n, q_I_k, nI_add, pk_sub, pk_mul, nI_clamp, n_lt0, n_0lt, n_eq0, n_lt, n_le, n_eq, n_m1, n_m2, n_m9, n_12, n_19, n_10, n_01, n_1n1, n_0n1, n_1n0, n_0n0, n_dI, n_m1lt, q_inb, n_nar, n_nar0, n_nar1, n_bool, Bool.false_eq_true, Bool.true_eq_false, if_true, if_false, ↓reduceIte, Nat.reduceAdd, Nat.reduceMul, Nat.reduceSub, Nat.reduceLT, Nat.reduceLeDiff, Nat.reduceEqDiff, Nat.reduceMod, Nat.reduceDiv, q_R hr'.1, r_sf hr' hpn, e]
    | some i =>
      obtain ⟨him, hqi⟩ := k_pl_some e
      by_cases hbk : k_rng b (k_m K)
      · obtain ⟨y, hym, rfl⟩ := k_rng_of hbk (by omega)
        obtain ⟨M1, e1, q1⟩ := c_wm (d := 192) hc him hym
        have c1 := q_st_c (q_st_eq hp q1 (by decide)) hc
        obtain ⟨M2, e2, q2⟩ := c_wm (d := 192) c1 him him
        refine Or.inl ⟨k_wm K i y y - k_wm K i i i, ⟨M2, ?_, q_st_eq hp (q1.tr q2) (by decide)⟩, fun M' s => ?_⟩
        · rw [E_X11_price 198]
          simp (disch := omega) only [q_ckt, q_lt, q_cI, q_cJ, q_cV, q_cP, q_xI, q_xV, q_xP, q_xJ, g_gk, g_ga, g_gw, g_gp, g_gq, g_P, g_J, q_I_s, q_I_n, q_I_k, nI_add, pk_sub, pk_mul, nI_clamp, n_lt0, n_0lt, n_eq0, n_lt, n_le, n_eq, n_m1, n_m2, n_m9, n_12, n_19, n_10, n_01, n_1n1, n_0n1, n_1n0, n_0n0, n_dI, n_m1lt, q_inb, n_nar, n_nar0, n_nar1, n_bool, Bool.false_eq_true, Bool.true_eq_false, if_true, if_false, ↓reduceIte, Nat.reduceAdd, Nat.reduceMul, Nat.reduceSub, Nat.reduceLT, Nat.reduceLeDiff, Nat.reduceEqDiff, Nat.reduceMod, Nat.reduceDiv, q_W hp, c_np hc, ha, c_ns hc hpn, e, c_npl hc, hbk, e1, q_W c1.1, e2]
        · have hr' := q_st_r s hr
          have h4 := r_4 (v := nI 0) hr'
          obtain ⟨N1, f1, t1⟩ := r_priceOf (d := 190) h4 him hym
          rw [hqi] at f1
          refine ⟨N1, ?_, (q_st_4 hr'.1 rfl).tr (q_st_eq h4.1 t1 (by decide)), by rw [t1.2]; rfl, (q_I_eq t1 (by decide) 4).trans q_I_s⟩
          rw [E_X12_price 199]
          simp (disch := omega) only [q_ckt, q_lt, q_cI, q_cJ, q_cV, q_cP, q_xI, q_xV, q_xP, q_xJ, g_gk, g_ga, g_gw, g_gp, g_gq, g_P, g_J, q_I_s, q_I_n, q_I_k, nI_add, pk_sub, pk_mul, nI_clamp, n_lt0, n_0lt, n_eq0, n_lt, n_le, n_eq, n_m1, n_m2, n_m9, n_12, n_19, n_10, n_01, n_1n1, n_0n1, n_1n0, n_0n0, n_dI, n_m1lt, q_inb, n_nar, n_nar0, n_nar1, n_bool, Bool.false_eq_true, Bool.true_eq_false, if_true, if_false, ↓reduceIte, Nat.reduceAdd, Nat.reduceMul, Nat.reduceSub, Nat.reduceLT, Nat.reduceLeDiff, Nat.reduceEqDiff, Nat.reduceMod, Nat.reduceDiv, q_R hr'.1, r_sf hr' hpn, e, hbk, f1]
          unfold k_wm
          rw [k_mov_self hc.2.2.1 him]
      · refine Or.inr ⟨3, 3, by omega, by omega, ?_, fun _ => rfl, fun M' s => ⟨nI 0, _, ?_, q_st_4 s.1.1 (k := 4) (v := nI 3) rfl, rfl, q_I_s⟩⟩
        · rw [E_X11_price 198]
          simp (disch := omega) only [q_ckt, q_lt, q_cI, q_cJ, q_cV, q_cP, q_xI, q_xV, q_xP, q_xJ, g_gk, g_ga, g_gw, g_gp, g_gq, g_P, g_J, q_I_s, q_I_n, q_I_k, nI_add, pk_sub, pk_mul, nI_clamp, n_lt0, n_0lt, n_eq0, n_lt, n_le, n_eq, n_m1, n_m2, n_m9, n_12, n_19, n_10, n_01, n_1n1, n_0n1, n_1n0, n_0n0, n_dI, n_m1lt, q_inb, n_nar, n_nar0, n_nar1, n_bool, Bool.false_eq_true, Bool.true_eq_false, if_true, if_false, ↓reduceIte, Nat.reduceAdd, Nat.reduceMul, Nat.reduceSub, Nat.reduceLT, Nat.reduceLeDiff, Nat.reduceEqDiff, Nat.reduceMod, Nat.reduceDiv, q_W hp, c_np hc, ha, c_ns hc hpn, e, c_npl hc, hbk]
        · have hr' := q_st_r s hr
          rw [E_X12_price 199]
          simp (disch := omega) only [q_ckt, q_lt, q_cI, q_cJ, q_cV, q_cP, q_xI, q_xV, q_xP, q_xJ, g_gk, g_ga, g_gw, g_gp, g_gq, g_P, g_J, q_I_s, q_I_n, q_I_k, nI_add, pk_sub, pk_mul, nI_clamp, n_lt0, n_0lt, n_eq0, n_lt, n_le, n_eq, n_m1, n_m2, n_m9, n_12, n_19, n_10, n_01, n_1n1, n_0n1, n_1n0, n_0n0, n_dI, n_m1lt, q_inb, n_nar, n_nar0, n_nar1, n_bool, Bool.false_eq_true, Bool.true_eq_false, if_true, if_false, ↓reduceIte, Nat.reduceAdd, Nat.reduceMul, Nat.reduceSub, Nat.reduceLT, Nat.reduceLeDiff, Nat.reduceEqDiff, Nat.reduceMod, Nat.reduceDiv, q_R hr'.1, r_sf hr' hpn, e, hbk]
  · refine Or.inr ⟨1, 1, by omega, by omega, ?_, fun _ => rfl, fun M' s => ⟨nI 0, _, ?_, q_st_4 s.1.1 (k := 4) (v := nI 1) rfl, rfl, q_I_s⟩⟩
    · rw [E_X11_price 198]
      simp (disch := omega) only [q_ckt, q_lt, q_cI, q_cJ, q_cV, q_cP, q_xI, q_xV, q_xP, q_xJ, g_gk, g_ga, g_gw, g_gp, g_gq, g_P, g_J, q_I_s, q_I_n, q_I_k, nI_add, pk_sub, pk_mul, nI_clamp, n_lt0, n_0lt, n_eq0, n_lt, n_le, n_eq, n_m1, n_m2, n_m9, n_12, n_19, n_10, n_01, n_1n1, n_0n1, n_1n0, n_0n0, n_dI, n_m1lt, q_inb, n_nar, n_nar0, n_nar1, n_bool, Bool.false_eq_true, Bool.true_eq_false, if_true, if_false, ↓reduceIte, Nat.reduceAdd, Nat.reduceMul, Nat.reduceSub, Nat.reduceLT, Nat.reduceLeDiff, Nat.reduceEqDiff, Nat.reduceMod, Nat.reduceDiv, q_W hp, c_np hc, ha]
    · have hr' := q_st_r s hr
      rw [E_X12_price 199]
      simp (disch := omega) only [q_ckt, q_lt, q_cI, q_cJ, q_cV, q_cP, q_xI, q_xV, q_xP, q_xJ, g_gk, g_ga, g_gw, g_gp, g_gq, g_P, g_J, q_I_s, q_I_n, q_I_k, nI_add, pk_sub, pk_mul, nI_clamp, n_lt0, n_0lt, n_eq0, n_lt, n_le, n_eq, n_m1, n_m2, n_m9, n_12, n_19, n_10, n_01, n_1n1, n_0n1, n_1n0, n_0n0, n_dI, n_m1lt, q_inb, n_nar, n_nar0, n_nar1, n_bool, Bool.false_eq_true, Bool.true_eq_false, if_true, if_false, ↓reduceIte, Nat.reduceAdd, Nat.reduceMul, Nat.reduceSub, Nat.reduceLT, Nat.reduceLeDiff, Nat.reduceEqDiff, Nat.reduceMod, Nat.reduceDiv, q_R hr'.1, r_sf0 hr' ha]
theorem S_bestPlace (a : Int32) : q_St L xs (q_Iv L xs) (m_L_bestPlace 200 1 a 436) (m_X12_bestPlace 200 412 a) := by
  refine q_St_mk (x := m_X11_bestPlace 199 1 a) (fun M => E_L_bestPlace 199 1 a 436 M) fun M hp hI => ?_
  have hc := c_I_c hp hI.1
  have hr := c_I_r hp hI.1
  have hwf := hI.1.1
  generalize M.1 413 = K at hc hr hwf
  have hb := k_bds hc.2.2.1
  by_cases ha : k_rng a (k_n K)
  · obtain ⟨p, hpn, rfl⟩ := k_rng_of ha (by omega)
    cases e : k_pl K p with
    | none =>
      refine Or.inr ⟨2, 2, by omega, by omega, ?_, fun _ => rfl, fun M' s => ⟨nI 0, _, ?_, q_st_4 s.1.1 (k := 4) (v := nI 2) rfl, rfl, q_I_s⟩⟩
      · rw [E_X11_bestPlace 198]
        simp (disch := omega) only [q_ckt, q_lt, q_cI, q_cJ, q_cV, q_cP, q_xI, q_xV, q_xP, q_xJ, g_gk, g_ga, g_gw, g_gp, g_gq, g_P, g_J, q_I_s, q_I_n, q_I_k, nI_add, pk_sub, pk_mul, nI_clamp, n_lt0, n_0lt, n_eq0, n_lt, n_le, n_eq, n_m1, n_m2, n_m9, n_12, n_19, n_10, n_01, n_1n1, n_0n1, n_1n0, n_0n0, n_dI, n_m1lt, q_inb, n_nar, n_nar0, n_nar1, n_bool, Bool.false_eq_true, Bool.true_eq_false, if_true, if_false, ↓reduceIte, Nat.reduceAdd, Nat.reduceMul, Nat.reduceSub, Nat.reduceLT, Nat.reduceLeDiff, Nat.reduceEqDiff, Nat.reduceMod, Nat.reduceDiv, q_W hp, c_np hc, ha, c_ns hc hpn, e]
      · have hr' := q_st_r s hr
        rw [E_X12_bestPlace 199]
        simp (disch := omega) only [q_ckt, q_lt, q_cI, q_cJ, q_cV, q_cP, q_xI, q_xV, q_xP, q_xJ, g_gk, g_ga, g_gw, g_gp, g_gq, g_P, g_J, q_I_s, q_I_n, q_I_k, nI_add, pk_sub, pk_mul, nI_clamp, n_lt0, n_0lt, n_eq0, n_lt, n_le, n_eq, n_m1, n_m2, n_m9, n_12, n_19, n_10, n_01, n_1n1, n_0n1, n_1n0, n_0n0, n_dI, n_m1lt, q_inb, n_nar, n_nar0, n_nar1, n_bool, Bool.false_eq_true, Bool.true_eq_false, if_true, if_false, ↓reduceIte, Nat.reduceAdd, Nat.reduceMul, Nat.reduceSub, Nat.reduceLT, Nat.reduceLeDiff, Nat.reduceEqDiff, Nat.reduceMod, Nat.reduceDiv, q_R hr'.1, r_bf1 hr' hpn, e]
    | some j =>
      obtain ⟨hjm, hqj⟩ := k_pl_some e
      have h0m : 0 < k_m K := by omega
      refine Or.inl ⟨nI (k_bx (fun i => k_wm K j i i) (k_m K - 1)), ?_, fun M' s => ?_⟩
      · obtain ⟨M1, e1, q1⟩ := c_wm (d := 192) hc hjm h0m
        have Lp := q_up (σ := ir_M) (V := fun x t => v_X11_bestPlace_24 198 1 (nI j) (nI (k_bx (fun i => k_wm K j i i) x)) (k_wm K j (k_bx (fun i => k_wm K j i i) x) (k_bx (fun i => k_wm K j i i) x)) (nI (x + 1)) t) (N := k_m K - 1) (I := fun _ t => q_eq [91, 92, 93, 94, 95, 96, 9, 117, 118, 120] M t) (K := fun t => ir_oI (nI (k_bx (fun i => k_wm K j i i) (k_m K - 1))) t) (by
          intro x t hx hq
          have ct := q_st_c (q_st_eq hp hq (by decide)) hc
          obtain ⟨t2, e2, q2⟩ := c_wm (d := 192) ct hjm (show x + 1 < k_m K by omega)
          refine ⟨t2, hq.tr q2, ?_⟩
          rw [L_X11_bestPlace_24]
          simp (disch := omega) only [q_ckt, q_lt, q_cI, q_cJ, q_cV, q_cP, q_xI, q_xV, q_xP, q_xJ, g_gk, g_ga, g_gw, g_gp, g_gq, g_P, g_J, q_I_s, q_I_n, q_I_k, nI_add, pk_sub, pk_mul, nI_clamp, n_lt0, n_0lt, n_eq0, n_lt, n_le, n_eq, n_m1, n_m2, n_m9, n_12, n_19, n_10, n_01, n_1n1, n_0n1, n_1n0, n_0n0, n_dI, n_m1lt, q_inb, n_nar, n_nar0, n_nar1, n_bool, Bool.false_eq_true, Bool.true_eq_false, if_true, if_false, ↓reduceIte, Nat.reduceAdd, Nat.reduceMul, Nat.reduceSub, Nat.reduceLT, Nat.reduceLeDiff, Nat.reduceEqDiff, Nat.reduceMod, Nat.reduceDiv, q_W ct.1, q_S ct.1 (a := 12) (by decide), c_use ct, show x + 1 < k_m K by omega, e2]
          rw [show k_bx (fun i => k_wm K j i i) (x + 1) = if k_wm K j (k_bx (fun i => k_wm K j i i) x) (k_bx (fun i => k_wm K j i i) x) < k_wm K j (x + 1) (x + 1) then x + 1 else k_bx (fun i => k_wm K j i i) x from rfl]
          by_cases q : k_wm K j (k_bx (fun i => k_wm K j i i) x) (k_bx (fun i => k_wm K j i i) x) < k_wm K j (x + 1) (x + 1)
          · rw [if_pos q, if_pos q]
          · rw [if_neg q, if_neg q]) (by
          intro t hq
          have ct := q_st_c (q_st_eq hp hq (by decide)) hc
          rw [L_X11_bestPlace_24]
          simp (disch := omega) only [q_ckt, q_lt, q_cI, q_cJ, q_cV, q_cP, q_xI, q_xV, q_xP, q_xJ, g_gk, g_ga, g_gw, g_gp, g_gq, g_P, g_J, q_I_s, q_I_n, q_I_k, nI_add, pk_sub, pk_mul, nI_clamp, n_lt0, n_0lt, n_eq0, n_lt, n_le, n_eq, n_m1, n_m2, n_m9, n_12, n_19, n_10, n_01, n_1n1, n_0n1, n_1n0, n_0n0, n_dI, n_m1lt, q_inb, n_nar, n_nar0, n_nar1, n_bool, Bool.false_eq_true, Bool.true_eq_false, if_true, if_false, ↓reduceIte, Nat.reduceAdd, Nat.reduceMul, Nat.reduceSub, Nat.reduceLT, Nat.reduceLeDiff, Nat.reduceEqDiff, Nat.reduceMod, Nat.reduceDiv, q_W ct.1, q_S ct.1 (a := 12) (by decide), c_use ct, show ¬ k_m K - 1 + 1 < k_m K by omega]) (i := 0) (t := M1) (by omega) q1
        obtain ⟨t, ht, ee⟩ := Lp
        refine ⟨t, ?_, q_st_eq hp ht (by decide)⟩
        rw [E_X11_bestPlace 198]
        simp (disch := omega) only [q_ckt, q_lt, q_cI, q_cJ, q_cV, q_cP, q_xI, q_xV, q_xP, q_xJ, g_gk, g_ga, g_gw, g_gp, g_gq, g_P, g_J, q_I_s, q_I_n, q_I_k, nI_add, pk_sub, pk_mul, nI_clamp, n_lt0, n_0lt, n_eq0, n_lt, n_le, n_eq, n_m1, n_m2, n_m9, n_12, n_19, n_10, n_01, n_1n1, n_0n1, n_1n0, n_0n0, n_dI, n_m1lt, q_inb, n_nar, n_nar0, n_nar1, n_bool, Bool.false_eq_true, Bool.true_eq_false, if_true, if_false, ↓reduceIte, Nat.reduceAdd, Nat.reduceMul, Nat.reduceSub, Nat.reduceLT, Nat.reduceLeDiff, Nat.reduceEqDiff, Nat.reduceMod, Nat.reduceDiv, q_W hp, c_np hc, ha, c_ns hc hpn, e, e1]
        exact ee
      · have hr' := q_st_r s hr
        have h4 := r_4 (v := nI 0) hr'
        have Lp := q_up (σ := ir_M) (V := fun x t => v_X12_bestPlace_22 199 412 (nI p) (nI (k_bx (fun i => k_wm K j i i) x)) (nI (x + 1)) t) (N := k_m K - 1) (I := fun _ t => q_eq [421, 418, 419, 420] (ir_sI M' 412 4 (nI 0)) t) (K := fun t => ir_oI (nI (k_bx (fun i => k_wm K j i i) (k_m K - 1))) t) (by
          intro x t hx hq
          have ct := r_rl_eq h4 hq (by decide)
          have hbx := k_bx_le (f := fun i => k_wm K j i i) x
          obtain ⟨t2, e2, q2⟩ := r_priceOf (d := 190) ct hjm (show x + 1 < k_m K by omega)
          have ct2 := r_rl_eq ct q2 (by decide)
          obtain ⟨t3, e3, q3⟩ := r_priceOf (d := 190) ct2 hjm (show k_bx (fun i => k_wm K j i i) x < k_m K by omega)
          rw [hqj] at e2 e3
          refine ⟨t3, (hq.tr q2).tr q3, ?_⟩
          have cmp := k_sub3 (t := k_fw K (k_td K) j) (k_wmb hwf hjm (show k_bx (fun i => k_wm K j i i) x < k_m K by omega) (show k_bx (fun i => k_wm K j i i) x < k_m K by omega)) (k_wmb hwf hjm (show x + 1 < k_m K by omega) (show x + 1 < k_m K by omega)) (k_wb hwf (k_qn hc.2.2.1 hjm) (k_td_gd hc.2.2.1 hjm))
          rw [L_X12_bestPlace_22]
          simp (disch := omega) only [q_ckt, q_lt, q_cI, q_cJ, q_cV, q_cP, q_xI, q_xV, q_xP, q_xJ, g_gk, g_ga, g_gw, g_gp, g_gq, g_P, g_J, q_I_s, q_I_n, q_I_k, nI_add, pk_sub, pk_mul, nI_clamp, n_lt0, n_0lt, n_eq0, n_lt, n_le, n_eq, n_m1, n_m2, n_m9, n_12, n_19, n_10, n_01, n_1n1, n_0n1, n_1n0, n_0n0, n_dI, n_m1lt, q_inb, n_nar, n_nar0, n_nar1, n_bool, Bool.false_eq_true, Bool.true_eq_false, if_true, if_false, ↓reduceIte, Nat.reduceAdd, Nat.reduceMul, Nat.reduceSub, Nat.reduceLT, Nat.reduceLeDiff, Nat.reduceEqDiff, Nat.reduceMod, Nat.reduceDiv, q_R ct.1, r_qd ct, show x + 1 < k_m K by omega, e2, q_R ct2.1, e3, cmp]
          rw [show k_bx (fun i => k_wm K j i i) (x + 1) = if k_wm K j (k_bx (fun i => k_wm K j i i) x) (k_bx (fun i => k_wm K j i i) x) < k_wm K j (x + 1) (x + 1) then x + 1 else k_bx (fun i => k_wm K j i i) x from rfl]
          by_cases q : k_wm K j (k_bx (fun i => k_wm K j i i) x) (k_bx (fun i => k_wm K j i i) x) < k_wm K j (x + 1) (x + 1)
          · rw [if_pos q, if_pos q]
          · rw [if_neg q, if_neg q]) (by
          intro t hq
          have ct := r_rl_eq h4 hq (by decide)
          rw [L_X12_bestPlace_22]
          simp (disch := omega) only [q_ckt, q_lt, q_cI, q_cJ, q_cV, q_cP, q_xI, q_xV, q_xP, q_xJ, g_gk, g_ga, g_gw, g_gp, g_gq, g_P, g_J, q_I_s, q_I_n, q_I_k, nI_add, pk_sub, pk_mul, nI_clamp, n_lt0, n_0lt, n_eq0, n_lt, n_le, n_eq, n_m1, n_m2, n_m9, n_12, n_19, n_10, n_01, n_1n1, n_0n1, n_1n0, n_0n0, n_dI, n_m1lt, q_inb, n_nar, n_nar0, n_nar1, n_bool, Bool.false_eq_true, Bool.true_eq_false, if_true, if_false, ↓reduceIte, Nat.reduceAdd, Nat.reduceMul, Nat.reduceSub, Nat.reduceLT, Nat.reduceLeDiff, Nat.reduceEqDiff, Nat.reduceMod, Nat.reduceDiv, q_R ct.1, r_qd ct, show ¬ k_m K - 1 + 1 < k_m K by omega]) (i := 0) (t := ir_sI M' 412 4 (nI 0)) (by omega) (q_eq.rf _ _)
        obtain ⟨t, ht, ee⟩ := Lp
        refine ⟨t, ?_, (q_st_4 hr'.1 rfl).tr (q_st_eq h4.1 ht (by decide)), by rw [ht.2]; rfl, (q_I_eq ht (by decide) 4).trans q_I_s⟩
        rw [E_X12_bestPlace 199]
        simp (disch := omega) only [q_ckt, q_lt, q_cI, q_cJ, q_cV, q_cP, q_xI, q_xV, q_xP, q_xJ, g_gk, g_ga, g_gw, g_gp, g_gq, g_P, g_J, q_I_s, q_I_n, q_I_k, nI_add, pk_sub, pk_mul, nI_clamp, n_lt0, n_0lt, n_eq0, n_lt, n_le, n_eq, n_m1, n_m2, n_m9, n_12, n_19, n_10, n_01, n_1n1, n_0n1, n_1n0, n_0n0, n_dI, n_m1lt, q_inb, n_nar, n_nar0, n_nar1, n_bool, Bool.false_eq_true, Bool.true_eq_false, if_true, if_false, ↓reduceIte, Nat.reduceAdd, Nat.reduceMul, Nat.reduceSub, Nat.reduceLT, Nat.reduceLeDiff, Nat.reduceEqDiff, Nat.reduceMod, Nat.reduceDiv, q_R hr'.1, r_bf1 hr' hpn, e]
        exact ee
  · refine Or.inr ⟨1, 1, by omega, by omega, ?_, fun _ => rfl, fun M' s => ⟨nI 0, _, ?_, q_st_4 s.1.1 (k := 4) (v := nI 1) rfl, rfl, q_I_s⟩⟩
    · rw [E_X11_bestPlace 198]
      simp (disch := omega) only [q_ckt, q_lt, q_cI, q_cJ, q_cV, q_cP, q_xI, q_xV, q_xP, q_xJ, g_gk, g_ga, g_gw, g_gp, g_gq, g_P, g_J, q_I_s, q_I_n, q_I_k, nI_add, pk_sub, pk_mul, nI_clamp, n_lt0, n_0lt, n_eq0, n_lt, n_le, n_eq, n_m1, n_m2, n_m9, n_12, n_19, n_10, n_01, n_1n1, n_0n1, n_1n0, n_0n0, n_dI, n_m1lt, q_inb, n_nar, n_nar0, n_nar1, n_bool, Bool.false_eq_true, Bool.true_eq_false, if_true, if_false, ↓reduceIte, Nat.reduceAdd, Nat.reduceMul, Nat.reduceSub, Nat.reduceLT, Nat.reduceLeDiff, Nat.reduceEqDiff, Nat.reduceMod, Nat.reduceDiv, q_W hp, c_np hc, ha]
    · have hr' := q_st_r s hr
      rw [E_X12_bestPlace 199]
      simp (disch := omega) only [q_ckt, q_lt, q_cI, q_cJ, q_cV, q_cP, q_xI, q_xV, q_xP, q_xJ, g_gk, g_ga, g_gw, g_gp, g_gq, g_P, g_J, q_I_s, q_I_n, q_I_k, nI_add, pk_sub, pk_mul, nI_clamp, n_lt0, n_0lt, n_eq0, n_lt, n_le, n_eq, n_m1, n_m2, n_m9, n_12, n_19, n_10, n_01, n_1n1, n_0n1, n_1n0, n_0n0, n_dI, n_m1lt, q_inb, n_nar, n_nar0, n_nar1, n_bool, Bool.false_eq_true, Bool.true_eq_false, if_true, if_false, ↓reduceIte, Nat.reduceAdd, Nat.reduceMul, Nat.reduceSub, Nat.reduceLT, Nat.reduceLeDiff, Nat.reduceEqDiff, Nat.reduceMod, Nat.reduceDiv, q_R hr'.1, r_bf0 hr' ha]
end AC
