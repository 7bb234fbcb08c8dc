/-! shares, the reference -/
def r_xn (K : Nat → Int32) (S : Nat) (r : List Nat) (M : ir_M) : Prop := r_rl M K ∧ (∀ p, S.testBit p = true → ir_I M 428 p = k_nk K p) ∧ ∀ i, i < r.length → ir_I M 429 i = nI (r.getD i 0)
def r_xo (M : ir_M) (b : Option Int32) : Prop := (b = none ∧ ir_I M 412 43 = 0) ∨ (∃ v, b = some v ∧ ir_I M 412 43 = 1 ∧ ir_I M 412 42 = v)
def q_fx (M M' : ir_M) : Prop := q_eq [412, 419, 420, 429] M M' ∧ ∀ k, k < 42 → ir_I M' 412 k = ir_I M 412 k
theorem q_fx.tr {A B C : ir_M} (h : q_fx A B) (g : q_fx B C) : q_fx A C := ⟨h.1.tr g.1, fun k hk => (g.2 k hk).trans (h.2 k hk)⟩
theorem q_fx_eq {S : List Nat} {M M' : ir_M} (h : q_eq S M M') (hS : ∀ a, a ∈ S → a ∈ [419, 420, 429]) : q_fx M M' := ⟨h.sub (fun a ha => List.mem_cons_of_mem _ (hS a ha)), fun k _ => q_I_eq h (fun q => absurd (hS 412 q) (by decide)) k⟩
theorem q_fx_4 {M : ir_M} {k : Nat} {v : Int32} (hk : 42 ≤ k) : q_fx M (ir_sI M 412 k v) := ⟨q_eq.sI (by decide), fun j hj => q_I_k (by omega)⟩
def k_xp (K : Nat → Int32) (S : Nat) (r : List Nat) (b b' : Option Int32) : Prop := (∀ v, b = some v → ∃ v', b' = some v' ∧ v.toInt ≤ v'.toInt) ∧ (∀ v', b' = some v' → b = some v' ∨ ∃ l, k_ir K S (r ++ l) ∧ k_xs K (r ++ l) = v') ∧ ∀ l, k_ir K S (r ++ l) → ∃ v', b' = some v' ∧ (k_xs K (r ++ l)).toInt ≤ v'.toInt
section SHR
variable {K : Nat → Int32} {S d : Nat}
theorem r_xn_fx {r : List Nat} {M M' : ir_M} (h : r_xn K S r M) (q : q_fx M M') (h4 : ∀ i, i < r.length → ir_I M' 429 i = ir_I M 429 i) : r_xn K S r M' := ⟨r_rl_eq h.1 q.1 (by decide), fun p hp => by rw [q_I_eq q.1 (by decide)]; exact h.2.1 p hp, fun i hi => by rw [h4 i hi]; exact h.2.2 i hi⟩
theorem r_gl {r : List Nat} {b : Option Int32} {M : ir_M} (hS : ∀ p, S.testBit p = true → p < k_n K) (h8 : r.length ≤ 8) (hr : k_ir K S r) (h : r_xn K S r M) (ho : r_xo M b) : ∃ M' b', m_X12_goesRows (d + 4) 412 (nI r.length) (nI 0) M = ir_oV M' ∧ q_fx M M' ∧ r_xn K S r M' ∧ r_xo M' b' ∧ k_xp K S r b b' := by
  have hk := h.1.2.1
  have hb := k_bds hk
  have inS : ∀ i, i < r.length → S.testBit (r.getD i 0) = true := fun i hi => by
    rw [← hr.2]
    exact List.contains_iff_mem.mpr (by
      rw [List.getD_eq_getElem?_getD, List.getElem?_eq_getElem hi]
      exact List.getElem_mem hi)
  have r8 : ∀ i, i < r.length → r.getD i 0 < 8 := fun i hi => by have := hr.1.1 i hi; omega
  have g0 : ∀ i, i < r.length → k_gd K (k_xr K r i) := fun i hi => k_nk_gd hk _ (by have := k_ag hk (hr.1.1 i hi); omega)
  have L1 := q_up (σ := ir_M) (V := fun x t => v_X12_goesRows_6 (d + 3) 412 (nI r.length) (nI x) t) (N := r.length) (I := fun x t => q_eq [419] M t ∧ ∀ i, i < x → ir_I t 419 i = k_xr K r i) (K := fun t => v_X12_goesRows_6 (d + 3) 412 (nI r.length) (nI r.length) t) (by
    rintro x t hx ⟨hq, ht⟩
    have hpt := q_PI_eq hq h.1.1
    have z1 : ir_I t 429 x = nI (r.getD x 0) := by rw [q_I_eq hq (by decide)]; exact h.2.2 x hx
    have z2 : ir_I t 428 (r.getD x 0) = k_xr K r x := by rw [q_I_eq hq (by decide)]; exact h.2.1 _ (inS x hx)
    have := r8 x hx
    refine ⟨ir_sI t 419 x (k_xr K r x), ⟨hq.tr (q_eq.sI (by decide)), fun i hi => ?_⟩, ?_⟩
    · rw [q_I_u]
      by_cases q : i = x
      · rw [if_pos q, q]
      · rw [if_neg q]; exact ht i (by omega)
    · rw [L_X12_goesRows_6]
      simp (disch := omega) only [q_ckt, q_lt, q_cI, q_cJ, q_cV, q_cP, q_xI, q_xV, q_xP, q_xJ, g_gk, g_ga, g_gw, g_gp, g_gq, g_P, g_J, q_I_s, q_I_n, q_I_k, nI_add, pk_sub, pk_mul, nI_clamp, n_lt0, n_0lt, n_eq0, n_lt, n_le, n_eq, n_m1, n_m2, n_m9, n_12, n_19, n_10, n_01, n_1n1, n_0n1, n_1n0, n_0n0, n_dI, n_m1lt, q_inb, n_nar, n_nar0, n_nar1, n_bool, Bool.false_eq_true, Bool.true_eq_false, if_true, if_false, ↓reduceIte, Nat.reduceAdd, Nat.reduceMul, Nat.reduceSub, Nat.reduceLT, Nat.reduceLeDiff, Nat.reduceEqDiff, Nat.reduceMod, Nat.reduceDiv, q_R hpt, hx, z1, z2]) (fun _ _ => rfl) (i := 0) (t := M) (by omega) ⟨q_eq.rf _ _, fun i hi => absurd hi (by omega)⟩
  obtain ⟨M1, ⟨q1, a1⟩, e1⟩ := L1
  have r1 := r_rl_eq h.1 q1 (by decide)
  obtain ⟨M2, e2, q2, f2⟩ := r_laysFall (d := d + 1) (m := r.length) (y := k_y K) r1 (by omega) a1 g0 hb.2.2.2.2.1 hb.2.2.2.2.2 true
  rw [if_pos rfl, show (1 : Int32) = nI 1 from rfl] at e2
  have r2 := r_rl_eq r1 q2 (by decide)
  have fx2 : q_fx M M2 := (q_fx_eq q1 (by decide)).tr (q_fx_eq q2 (by decide))
  have z429 : ∀ i, ir_I M2 429 i = ir_I M 429 i := fun i => by rw [q_I_eq q2 (by decide), q_I_eq q1 (by decide)]
  have L2 := q_up (σ := ir_M) (V := fun x t => v_X12_goesRows_51 (d + 3) 412 (nI r.length) (k_sm (k_xt K r) x) (nI x) t) (N := r.length) (I := fun _ t => t = M2) (K := fun t => v_X12_goesRows_51 (d + 3) 412 (nI r.length) (k_xs K r) (nI r.length) t) (by
    rintro x t hx rfl
    refine ⟨t, rfl, ?_⟩
    have z1 : ir_I t 429 x = nI (r.getD x 0) := by rw [z429]; exact h.2.2 x hx
    have z2 : ir_I t 420 x = k_fe K true 8 (k_xr K r) (k_y K) x := by rw [f2 x hx]; exact k_fe_t
    have wt := r_wt (d := d + 2) r2 (hr.1.1 x hx) (k_fe_tg (A := k_xr K r) (y := k_y K) (i := x) hk (fun j hj => g0 j (by omega)))
    have := r8 x hx
    rw [L_X12_goesRows_51]
    simp (disch := omega) only [q_ckt, q_lt, q_cI, q_cJ, q_cV, q_cP, q_xI, q_xV, q_xP, q_xJ, g_gk, g_ga, g_gw, g_gp, g_gq, g_P, g_J, q_I_s, q_I_n, q_I_k, nI_add, pk_sub, pk_mul, nI_clamp, n_lt0, n_0lt, n_eq0, n_lt, n_le, n_eq, n_m1, n_m2, n_m9, n_12, n_19, n_10, n_01, n_1n1, n_0n1, n_1n0, n_0n0, n_dI, n_m1lt, q_inb, n_nar, n_nar0, n_nar1, n_bool, Bool.false_eq_true, Bool.true_eq_false, if_true, if_false, ↓reduceIte, Nat.reduceAdd, Nat.reduceMul, Nat.reduceSub, Nat.reduceLT, Nat.reduceLeDiff, Nat.reduceEqDiff, Nat.reduceMod, Nat.reduceDiv, q_R r2.1, hx, z1, z2, wt]
    rfl) (fun _ _ => rfl) (i := 0) (t := M2) (by omega) rfl
  obtain ⟨t2, rfl, e3⟩ := L2
  have y3 : ir_I M1 413 3 = nI (k_y K) := by rw [r1.2.2]; exact (k_use hk).2.2.1
  have E : ∀ X, v_X12_goesRows_51 (d + 3) 412 (nI r.length) (k_xs K r) (nI r.length) t2 = X → m_X12_goesRows (d + 4) 412 (nI r.length) (nI 0) M = X := fun X hX => by
    rw [E_X12_goesRows]
    simp (disch := omega) only [q_ckt, q_lt, q_cI, q_cJ, q_cV, q_cP, q_xI, q_xV, q_xP, q_xJ, g_gk, g_ga, g_gw, g_gp, g_gq, g_P, g_J, q_I_s, q_I_n, q_I_k, nI_add, pk_sub, pk_mul, nI_clamp, n_lt0, n_0lt, n_eq0, n_lt, n_le, n_eq, n_m1, n_m2, n_m9, n_12, n_19, n_10, n_01, n_1n1, n_0n1, n_1n0, n_0n0, n_dI, n_m1lt, q_inb, n_nar, n_nar0, n_nar1, n_bool, Bool.false_eq_true, Bool.true_eq_false, if_true, if_false, ↓reduceIte, Nat.reduceAdd, Nat.reduceMul, Nat.reduceSub, Nat.reduceLT, Nat.reduceLeDiff, Nat.reduceEqDiff, Nat.reduceMod, Nat.reduceDiv]
    rw [e1, L_X12_goesRows_6]
    simp (disch := omega) only [q_ckt, q_lt, q_cI, q_cJ, q_cV, q_cP, q_xI, q_xV, q_xP, q_xJ, g_gk, g_ga, g_gw, g_gp, g_gq, g_P, g_J, q_I_s, q_I_n, q_I_k, nI_add, pk_sub, pk_mul, nI_clamp, n_lt0, n_0lt, n_eq0, n_lt, n_le, n_eq, n_m1, n_m2, n_m9, n_12, n_19, n_10, n_01, n_1n1, n_0n1, n_1n0, n_0n0, n_dI, n_m1lt, q_inb, n_nar, n_nar0, n_nar1, n_bool, Bool.false_eq_true, Bool.true_eq_false, if_true, if_false, ↓reduceIte, Nat.reduceAdd, Nat.reduceMul, Nat.reduceSub, Nat.reduceLT, Nat.reduceLeDiff, Nat.reduceEqDiff, Nat.reduceMod, Nat.reduceDiv, q_R r1.1, Nat.lt_irrefl, y3, e2]
    exact e3.trans hX
  have only : ∀ l, k_ir K S (r ++ l) → l = [] := fun l hl => by
    cases l with
    | nil => rfl
    | cons p l =>
      exfalso
      have hpc : (r ++ p :: l).contains p = true := List.contains_iff_mem.mpr (by simp)
      rw [hl.2, ← hr.2] at hpc
      have hw := hl.1
      rw [List.append_cons] at hw
      rw [k_rw_no (k_rw_pre hw)] at hpc
      exact nomatch hpc
  have ho2 : r_xo t2 b := by
    unfold r_xo at ho ⊢
    simp only [fx2.2 42, q_I_eq q2 (show 412 ∉ [420] by decide), q_I_eq q1 (show 412 ∉ [419] by decide)]
    exact ho
  obtain ⟨T, eT⟩ : ∃ T, T = k_xs K r := ⟨_, rfl⟩
  rw [← eT] at E
  have lst : ∀ v', (b = some v' ∨ v' = T) → (∀ v, b = some v → v.toInt ≤ v'.toInt) → T.toInt ≤ v'.toInt → k_xp K S r b (some v') := fun v' h1 h2 h3 => by
    refine ⟨fun v hv => ⟨v', rfl, h2 v hv⟩, fun w hw => ?_, fun l hl => ⟨v', rfl, ?_⟩⟩
    · cases hw
      rcases h1 with q | q
      · exact Or.inl q
      · exact Or.inr ⟨[], by rw [List.append_nil]; exact hr, by rw [List.append_nil, q, eT]⟩
    · rw [only l hl, List.append_nil, ← eT]; exact h3
  have tk : ∀ v : Int32, v_X12_goesRows_51 (d + 3) 412 (nI r.length) T (nI r.length) t2 = ir_oV (ir_sI (ir_sI t2 412 42 v) 412 43 (nI 1)) → k_xp K S r b (some v) → ∃ M' b', m_X12_goesRows (d + 4) 412 (nI r.length) (nI 0) M = ir_oV M' ∧ q_fx M M' ∧ r_xn K S r M' ∧ r_xo M' b' ∧ k_xp K S r b b' := fun v ev hv => by
    have fx3 : q_fx t2 (ir_sI (ir_sI t2 412 42 v) 412 43 (nI 1)) := (q_fx_4 (by decide)).tr (q_fx_4 (by decide))
    refine ⟨_, some v, E _ ev, fx2.tr fx3, r_xn_fx h (fx2.tr fx3) (fun i hi => by rw [q_I_n (by decide), q_I_n (by decide)]; exact z429 i), Or.inr ⟨v, rfl, ?_, ?_⟩, hv⟩
    · rw [q_I_s]; rfl
    · rw [q_I_k (by decide), q_I_s]
  rcases ho2 with ⟨b1, b2⟩ | ⟨v, b1, b2, b3⟩
  · refine tk T ?_ (lst T (Or.inr rfl) (fun v hv => by rw [b1] at hv; exact nomatch hv) (Int.le_refl _))
    rw [L_X12_goesRows_51]
    simp (disch := omega) only [q_ckt, q_lt, q_cI, q_cJ, q_cV, q_cP, q_xI, q_xV, q_xP, q_xJ, g_gk, g_ga, g_gw, g_gp, g_gq, g_P, g_J, q_I_s, q_I_n, q_I_k, nI_add, pk_sub, pk_mul, nI_clamp, n_lt0, n_0lt, n_eq0, n_lt, n_le, n_eq, n_m1, n_m2, n_m9, n_12, n_19, n_10, n_01, n_1n1, n_0n1, n_1n0, n_0n0, n_dI, n_m1lt, q_inb, n_nar, n_nar0, n_nar1, n_bool, Bool.false_eq_true, Bool.true_eq_false, if_true, if_false, ↓reduceIte, Nat.reduceAdd, Nat.reduceMul, Nat.reduceSub, Nat.reduceLT, Nat.reduceLeDiff, Nat.reduceEqDiff, Nat.reduceMod, Nat.reduceDiv, Nat.lt_irrefl, q_R r2.1, b2, show ir_isB (nI 1) = true from rfl, Bool.and_self]
  · by_cases q : v < T
    · refine tk T ?_ (lst T (Or.inr rfl) (fun w hw => by rw [b1] at hw; cases hw; rw [Int32.lt_iff_toInt_lt] at q; omega) (Int.le_refl _))
      rw [L_X12_goesRows_51]
      simp (disch := omega) only [q_ckt, q_lt, q_cI, q_cJ, q_cV, q_cP, q_xI, q_xV, q_xP, q_xJ, g_gk, g_ga, g_gw, g_gp, g_gq, g_P, g_J, q_I_s, q_I_n, q_I_k, nI_add, pk_sub, pk_mul, nI_clamp, n_lt0, n_0lt, n_eq0, n_lt, n_le, n_eq, n_m1, n_m2, n_m9, n_12, n_19, n_10, n_01, n_1n1, n_0n1, n_1n0, n_0n0, n_dI, n_m1lt, q_inb, n_nar, n_nar0, n_nar1, n_bool, Bool.false_eq_true, Bool.true_eq_false, if_true, if_false, ↓reduceIte, Nat.reduceAdd, Nat.reduceMul, Nat.reduceSub, Nat.reduceLT, Nat.reduceLeDiff, Nat.reduceEqDiff, Nat.reduceMod, Nat.reduceDiv, Nat.lt_irrefl, q_R r2.1, b2, n_10, b3, q, show ir_isB (nI 1) = true from rfl, Bool.and_self]
    · have fx3 : q_fx t2 (ir_sI t2 412 43 (nI 1)) := q_fx_4 (by decide)
      refine ⟨ir_sI t2 412 43 (nI 1), some v, E _ ?_, fx2.tr fx3, r_xn_fx h (fx2.tr fx3) (fun i hi => by rw [q_I_n (by decide)]; exact z429 i), Or.inr ⟨v, rfl, by rw [q_I_s]; rfl, by rw [q_I_k (by decide)]; exact b3⟩, lst v (Or.inl b1) (fun w hw => by rw [b1] at hw; cases hw; exact Int.le_refl _) (by rw [Int32.lt_iff_toInt_lt] at q; omega)⟩
      rw [L_X12_goesRows_51]
      simp (disch := omega) only [q_ckt, q_lt, q_cI, q_cJ, q_cV, q_cP, q_xI, q_xV, q_xP, q_xJ, g_gk, g_ga, g_gw, g_gp, g_gq, g_P, g_J, q_I_s, q_I_n, q_I_k, nI_add, pk_sub, pk_mul, nI_clamp, n_lt0, n_0lt, n_eq0, n_lt, n_le, n_eq, n_m1, n_m2, n_m9, n_12, n_19, n_10, n_01, n_1n1, n_0n1, n_1n0, n_0n0, n_dI, n_m1lt, q_inb, n_nar, n_nar0, n_nar1, n_bool, Bool.false_eq_true, Bool.true_eq_false, if_true, if_false, ↓reduceIte, Nat.reduceAdd, Nat.reduceMul, Nat.reduceSub, Nat.reduceLT, Nat.reduceLeDiff, Nat.reduceEqDiff, Nat.reduceMod, Nat.reduceDiv, Nat.lt_irrefl, q_R r2.1, b2, n_10, b3, q, show ir_isB (nI 1) = true from rfl, Bool.and_self]
theorem r_gr (hS : ∀ p, S.testBit p = true → p < k_n K) : ∀ (k : Nat) {r : List Nat} {R : Nat} {b : Option Int32} {M : ir_M}, k_card R = k → r.length + k ≤ 8 → R < 256 → k_rw K r → (∀ p, S.testBit p = (r.contains p || R.testBit p)) → (∀ p, R.testBit p = true → r.contains p = false) → r_xn K S r M → r_xo M b → ∃ M' b', m_X12_goesRows (d + 4 + k) 412 (nI r.length) (nI R) M = ir_oV M' ∧ q_fx M M' ∧ r_xn K S r M' ∧ r_xo M' b' ∧ k_xp K S r b b'
  | 0, r, R, b, M, hC, h8, hR, hw, hSR, hn, h, ho => by
    have R0 := (k_card_le R hR).2 hC
    rw [R0] at hSR ⊢
    exact r_gl hS (by omega) ⟨hw, fun p => by rw [hSR, Nat.zero_testBit, Bool.or_false]⟩ h ho
  | k + 1, r, R, b, M, hC, h8, hR, hw, hSR, hn, h, ho => by
    have hk := h.1.2.1
    have hb := k_bds hk
    have hR0 : ¬ R = 0 := fun w => by
      rw [w] at hC
      exact absurd hC (by rw [show k_card 0 = 0 by decide +kernel]; omega)
    have ed : d + 4 + (k + 1) = d + 4 + k + 1 := by omega
    have L := q_up (σ := ir_M) (V := fun x t => v_X12_goesRows_112 (d + 4 + k) 412 (nI r.length) (nI R) (nI x) t) (N := k_n K) (I := fun x t => q_fx M t ∧ r_xn K S r t ∧ ∃ c, r_xo t c ∧ (∀ v, b = some v → ∃ v', c = some v' ∧ v.toInt ≤ v'.toInt) ∧ (∀ v', c = some v' → b = some v' ∨ ∃ l, k_ir K S (r ++ l) ∧ k_xs K (r ++ l) = v') ∧ ∀ p, p < x → ∀ l, k_ir K S (r ++ p :: l) → ∃ v', c = some v' ∧ (k_xs K (r ++ p :: l)).toInt ≤ v'.toInt) (K := ir_oV) (by
      rintro x t hx ⟨hq, hxn, c, hc, c1, c2, c3⟩
      have hh := r_has (M := t) (d := d + 3 + k) hR (show x < 8 by omega)
      rw [show d + 3 + k + 1 = d + 4 + k by omega] at hh
      have pe := r_pe (d := d + 3 + k) hxn.1
      rw [show d + 3 + k + 1 = d + 4 + k by omega] at pe
      by_cases qb : R.testBit x = true
      · rw [qb, if_pos rfl] at hh
        obtain ⟨t1, et1⟩ : ∃ N, N = ir_sI t 429 r.length (nI x) := ⟨_, rfl⟩
        have f1 : q_fx t t1 := by rw [et1]; exact q_fx_eq (S := [429]) (q_eq.sI (by decide)) (by decide)
        have p1 : q_PI t1 := by rw [et1]; exact hxn.1.1
        have ln : (r ++ [x]).length = r.length + 1 := by rw [List.length_append]; rfl
        have xn1 : r_xn K S (r ++ [x]) t1 := by
          refine ⟨r_rl_eq hxn.1 f1.1 (by decide), fun p hp => by rw [et1, q_I_n (by decide)]; exact hxn.2.1 p hp, fun i hi => ?_⟩
          rw [et1, q_I_u]
          by_cases q : i = r.length
          · rw [if_pos q, q, k_gr]
          · rw [if_neg q, k_gl (by omega)]; exact hxn.2.2 i (by omega)
        have xo1 : r_xo t1 c := by
          unfold r_xo at hc ⊢
          simp only [et1, q_I_n (show (412 : Nat) ≠ 429 by decide)]
          exact hc
        have cd := k_cd_d R hR x (by omega) qb
        obtain ⟨t2, c', e2, q2, a2, o2, p2⟩ := r_gr hS k (r := r ++ [x]) (R := k_dif R (2 ^ x)) (by omega) (by omega) (k_dif_lt hR) (k_rw_s hw hx (hn x qb)) (fun p => by
          rw [hSR, k_ctn, k_dif_bit, n_p2b]
          by_cases q : x = p
          · rw [decide_eq_true q, ← q, qb]
            cases r.contains x <;> rfl
          · rw [decide_eq_false q]
            cases r.contains p <;> cases R.testBit p <;> rfl) (fun p hp => by
          rw [k_dif_bit, n_p2b, Bool.and_eq_true, Bool.not_eq_true'] at hp
          rw [k_ctn, hn p hp.1, hp.2]; rfl) xn1 xo1
        rw [ln] at e2
        obtain ⟨y1, y2, y3⟩ := p2
        refine ⟨t2, ⟨(hq.tr f1).tr q2, ⟨a2.1, a2.2.1, fun i hi => by rw [a2.2.2 i (by omega), k_gl hi]⟩, c', o2, fun v hv => ?_, fun v' hv' => ?_, fun p hp l hl => ?_⟩, ?_⟩
        · obtain ⟨v1, w1, w2⟩ := c1 v hv
          obtain ⟨v2, w3, w4⟩ := y1 v1 w1
          exact ⟨v2, w3, by omega⟩
        · rcases y2 v' hv' with q | ⟨l, l1, l2⟩
          · exact c2 v' q
          · exact Or.inr ⟨x :: l, by rw [List.append_cons]; exact l1, by rw [List.append_cons]; exact l2⟩
        · by_cases qp : p = x
          · rw [qp, List.append_cons] at hl ⊢
            exact y3 l hl
          · obtain ⟨v1, w1, w2⟩ := c3 p (by omega) l hl
            obtain ⟨v2, w3, w4⟩ := y1 v1 w1
            exact ⟨v2, w3, by omega⟩
        · rw [L_X12_goesRows_112]
          simp (disch := omega) only [q_ckt, q_lt, q_cI, q_cJ, q_cV, q_cP, q_xI, q_xV, q_xP, q_xJ, g_gk, g_ga, g_gw, g_gp, g_gq, g_P, g_J, q_I_s, q_I_n, q_I_k, nI_add, pk_sub, pk_mul, nI_clamp, n_lt0, n_0lt, n_eq0, n_lt, n_le, n_eq, n_m1, n_m2, n_m9, n_12, n_19, n_10, n_01, n_1n1, n_0n1, n_1n0, n_0n0, n_dI, n_m1lt, q_inb, n_nar, n_nar0, n_nar1, n_bool, Bool.false_eq_true, Bool.true_eq_false, if_true, if_false, ↓reduceIte, Nat.reduceAdd, Nat.reduceMul, Nat.reduceSub, Nat.reduceLT, Nat.reduceLeDiff, Nat.reduceEqDiff, Nat.reduceMod, Nat.reduceDiv, q_R hxn.1.1, pe, hx, hh]
          rw [← et1]
          simp (disch := omega) only [q_ckt, q_lt, q_cI, q_cJ, q_cV, q_cP, q_xI, q_xV, q_xP, q_xJ, g_gk, g_ga, g_gw, g_gp, g_gq, g_P, g_J, q_I_s, q_I_n, q_I_k, nI_add, pk_sub, pk_mul, nI_clamp, n_lt0, n_0lt, n_eq0, n_lt, n_le, n_eq, n_m1, n_m2, n_m9, n_12, n_19, n_10, n_01, n_1n1, n_0n1, n_1n0, n_0n0, n_dI, n_m1lt, q_inb, n_nar, n_nar0, n_nar1, n_bool, Bool.false_eq_true, Bool.true_eq_false, if_true, if_false, ↓reduceIte, Nat.reduceAdd, Nat.reduceMul, Nat.reduceSub, Nat.reduceLT, Nat.reduceLeDiff, Nat.reduceEqDiff, Nat.reduceMod, Nat.reduceDiv, q_R p1, n_bit, n_dif, e2]
      · rw [if_neg qb] at hh
        refine ⟨t, ⟨hq, hxn, c, hc, c1, c2, fun p hp l hl => ?_⟩, ?_⟩
        · by_cases qp : p = x
          · exfalso
            rw [qp] at hl
            have hpc : (r ++ x :: l).contains x = true := List.contains_iff_mem.mpr (by simp)
            rw [hl.2, hSR, Bool.eq_false_iff.mpr qb, Bool.or_false] at hpc
            have hw2 := hl.1
            rw [List.append_cons] at hw2
            rw [k_rw_no (k_rw_pre hw2)] at hpc
            exact nomatch hpc
          · exact c3 p (by omega) l hl
        · rw [L_X12_goesRows_112]
          simp (disch := omega) only [q_ckt, q_lt, q_cI, q_cJ, q_cV, q_cP, q_xI, q_xV, q_xP, q_xJ, g_gk, g_ga, g_gw, g_gp, g_gq, g_P, g_J, q_I_s, q_I_n, q_I_k, nI_add, pk_sub, pk_mul, nI_clamp, n_lt0, n_0lt, n_eq0, n_lt, n_le, n_eq, n_m1, n_m2, n_m9, n_12, n_19, n_10, n_01, n_1n1, n_0n1, n_1n0, n_0n0, n_dI, n_m1lt, q_inb, n_nar, n_nar0, n_nar1, n_bool, Bool.false_eq_true, Bool.true_eq_false, if_true, if_false, ↓reduceIte, Nat.reduceAdd, Nat.reduceMul, Nat.reduceSub, Nat.reduceLT, Nat.reduceLeDiff, Nat.reduceEqDiff, Nat.reduceMod, Nat.reduceDiv, q_R hxn.1.1, pe, hx, hh]) (by
      rintro t ⟨hq, hxn, -⟩
      have pe := r_pe (d := d + 3 + k) hxn.1
      rw [show d + 3 + k + 1 = d + 4 + k by omega] at pe
      rw [L_X12_goesRows_112]
      simp (disch := omega) only [q_ckt, q_lt, q_cI, q_cJ, q_cV, q_cP, q_xI, q_xV, q_xP, q_xJ, g_gk, g_ga, g_gw, g_gp, g_gq, g_P, g_J, q_I_s, q_I_n, q_I_k, nI_add, pk_sub, pk_mul, nI_clamp, n_lt0, n_0lt, n_eq0, n_lt, n_le, n_eq, n_m1, n_m2, n_m9, n_12, n_19, n_10, n_01, n_1n1, n_0n1, n_1n0, n_0n0, n_dI, n_m1lt, q_inb, n_nar, n_nar0, n_nar1, n_bool, Bool.false_eq_true, Bool.true_eq_false, if_true, if_false, ↓reduceIte, Nat.reduceAdd, Nat.reduceMul, Nat.reduceSub, Nat.reduceLT, Nat.reduceLeDiff, Nat.reduceEqDiff, Nat.reduceMod, Nat.reduceDiv, q_R hxn.1.1, pe, Nat.lt_irrefl]) (i := 0) (t := M) (by omega) ⟨⟨q_eq.rf _ _, fun _ _ => rfl⟩, h, b, ho, fun v hv => ⟨v, hv, Int.le_refl _⟩, fun v' hv' => Or.inl hv', fun p hp => absurd hp (by omega)⟩
    obtain ⟨t, ⟨hq, hxn, c, hc, c1, c2, c3⟩, ee⟩ := L
    refine ⟨t, c, ?_, hq, hxn, hc, c1, c2, fun l hl => ?_⟩
    · rw [ed, E_X12_goesRows]
      simp (disch := omega) only [q_ckt, q_lt, q_cI, q_cJ, q_cV, q_cP, q_xI, q_xV, q_xP, q_xJ, g_gk, g_ga, g_gw, g_gp, g_gq, g_P, g_J, q_I_s, q_I_n, q_I_k, nI_add, pk_sub, pk_mul, nI_clamp, n_lt0, n_0lt, n_eq0, n_lt, n_le, n_eq, n_m1, n_m2, n_m9, n_12, n_19, n_10, n_01, n_1n1, n_0n1, n_1n0, n_0n0, n_dI, n_m1lt, q_inb, n_nar, n_nar0, n_nar1, n_bool, Bool.false_eq_true, Bool.true_eq_false, if_true, if_false, ↓reduceIte, Nat.reduceAdd, Nat.reduceMul, Nat.reduceSub, Nat.reduceLT, Nat.reduceLeDiff, Nat.reduceEqDiff, Nat.reduceMod, Nat.reduceDiv, hR0]
      exact ee
    · cases l with
      | nil =>
        exfalso
        rw [List.append_nil] at hl
        refine hR0 (k_bit_eq fun p => ?_)
        rw [Nat.zero_testBit]
        cases e : R.testBit p
        · rfl
        · have := hSR p
          rw [← hl.2, hn p e, e] at this
          exact nomatch this
      | cons p l =>
        have hpc : (r ++ p :: l).contains p = true := List.contains_iff_mem.mpr (by simp)
        rw [hl.2] at hpc
        exact c3 p (hS p hpc) l hl
theorem r_alone {M : ir_M} (hS : S < 256) (hSn : ∀ p, S.testBit p = true → p < k_n K) (h : r_xn K S [] M) : ∃ N v, m_X12_alone (d + 13) 412 (nI S) M = ir_oI v N ∧ k_mxs K S v ∧ q_fx M N := by
  obtain ⟨M1, e1⟩ : ∃ N, N = ir_sI (ir_sI M 412 43 (nI 0)) 412 42 (nI 0) := ⟨_, rfl⟩
  have f1 : q_fx M M1 := by rw [e1]; exact (q_fx_4 (by decide)).tr (q_fx_4 (by decide))
  have xn1 : r_xn K S [] M1 := r_xn_fx h f1 (fun i hi => absurd hi (by show ¬ i < 0; omega))
  have xo1 : r_xo M1 none := Or.inl ⟨rfl, by rw [e1, q_I_k (by decide), q_I_s]; rfl⟩
  have cl := k_card_le S hS
  obtain ⟨N, b, e2, q2, a2, o2, p1, p2, p3⟩ := r_gr (d := d + 8 - k_card S) hSn (k_card S) (r := []) (R := S) rfl (by show 0 + k_card S ≤ 8; omega) hS ⟨fun i hi => absurd hi (by show ¬ i < 0; omega), fun i j hi => absurd hi (by show ¬ i < 0; omega)⟩ (fun p => by show _ = (false || _); rw [Bool.false_or]) (fun _ _ => rfl) xn1 xo1
  rw [show d + 8 - k_card S + 4 + k_card S = d + 12 by omega, show ([] : List Nat).length = 0 from rfl] at e2
  have hex := k_ir_bl (K := K) hS hSn
  obtain ⟨v, hv, hv2⟩ := p3 _ hex
  refine ⟨N, v, ?_, ⟨?_, fun r hr => ?_⟩, f1.tr q2⟩
  · rcases o2 with ⟨b1, -⟩ | ⟨w, b1, b2, b3⟩
    · rw [hv] at b1; exact nomatch b1
    · rw [hv] at b1
      cases b1
      rw [E_X12_alone]
      simp (disch := omega) only [q_ckt, q_lt, q_cI, q_cJ, q_cV, q_cP, q_xI, q_xV, q_xP, q_xJ, g_gk, g_ga, g_gw, g_gp, g_gq, g_P, g_J, q_I_s, q_I_n, q_I_k, nI_add, pk_sub, pk_mul, nI_clamp, n_lt0, n_0lt, n_eq0, n_lt, n_le, n_eq, n_m1, n_m2, n_m9, n_12, n_19, n_10, n_01, n_1n1, n_0n1, n_1n0, n_0n0, n_dI, n_m1lt, q_inb, n_nar, n_nar0, n_nar1, n_bool, Bool.false_eq_true, Bool.true_eq_false, if_true, if_false, ↓reduceIte, Nat.reduceAdd, Nat.reduceMul, Nat.reduceSub, Nat.reduceLT, Nat.reduceLeDiff, Nat.reduceEqDiff, Nat.reduceMod, Nat.reduceDiv, q_R h.1.1, show ir_isB (nI 0) = true from rfl, Bool.and_self]
      rw [← e1]
      simp (disch := omega) only [q_ckt, q_lt, q_cI, q_cJ, q_cV, q_cP, q_xI, q_xV, q_xP, q_xJ, g_gk, g_ga, g_gw, g_gp, g_gq, g_P, g_J, q_I_s, q_I_n, q_I_k, nI_add, pk_sub, pk_mul, nI_clamp, n_lt0, n_0lt, n_eq0, n_lt, n_le, n_eq, n_m1, n_m2, n_m9, n_12, n_19, n_10, n_01, n_1n1, n_0n1, n_1n0, n_0n0, n_dI, n_m1lt, q_inb, n_nar, n_nar0, n_nar1, n_bool, Bool.false_eq_true, Bool.true_eq_false, if_true, if_false, ↓reduceIte, Nat.reduceAdd, Nat.reduceMul, Nat.reduceSub, Nat.reduceLT, Nat.reduceLeDiff, Nat.reduceEqDiff, Nat.reduceMod, Nat.reduceDiv, q_R xn1.1.1, e2, q_R a2.1.1, b3]
  · rcases p2 v hv with q | ⟨l, l1, l2⟩
    · exact nomatch q
    · exact ⟨l, l1, l2⟩
  · obtain ⟨w, w1, w2⟩ := p3 r hr
    rw [hv] at w1
    cases w1
    exact w2
theorem r_lnow {M : ir_M} (h : r_rl M K) : ∃ N, m_X12_laysNow (d + 6) 412 M = ir_oV N ∧ q_eq [418, 419, 428] M N ∧ ∀ p, k_mem K p = true → ir_I N 428 p = k_nk K p := by
  have hk := h.2.1
  have hb := k_bds hk
  obtain ⟨M1, e1, q1, a1⟩ := r_laysAsked (d := d) h
  have r1 := r_rl_eq h q1 (by decide)
  have L := q_up (σ := ir_M) (V := fun x t => v_X12_laysNow_6 (d + 5) 412 (nI x) t) (N := k_m K) (I := fun x t => q_eq [428] M1 t ∧ ∀ j, j < x → ir_I t 428 (k_q K j) = k_as K j) (K := ir_oV) (by
    rintro x t hx ⟨hq, ht⟩
    have rt := r_rl_eq r1 hq (by decide)
    have hqx := k_qn hk hx
    have z : ir_I t 419 x = k_as K x := by rw [q_I_eq hq (by decide)]; exact a1 x hx
    refine ⟨ir_sI t 428 (k_q K x) (k_as K x), ⟨hq.tr (q_eq.sI (by decide)), fun j hj => ?_⟩, ?_⟩
    · rw [q_I_u]
      by_cases q : j = x
      · rw [if_pos (by rw [q]), q]
      · rw [if_neg (fun w => q (hk.2.2.2.2.2.1 j x (by omega) hx w))]
        exact ht j (by omega)
    · rw [L_X12_laysNow_6]
      simp (disch := omega) only [q_ckt, q_lt, q_cI, q_cJ, q_cV, q_cP, q_xI, q_xV, q_xP, q_xJ, g_gk, g_ga, g_gw, g_gp, g_gq, g_P, g_J, q_I_s, q_I_n, q_I_k, nI_add, pk_sub, pk_mul, nI_clamp, n_lt0, n_0lt, n_eq0, n_lt, n_le, n_eq, n_m1, n_m2, n_m9, n_12, n_19, n_10, n_01, n_1n1, n_0n1, n_1n0, n_0n0, n_dI, n_m1lt, q_inb, n_nar, n_nar0, n_nar1, n_bool, Bool.false_eq_true, Bool.true_eq_false, if_true, if_false, ↓reduceIte, Nat.reduceAdd, Nat.reduceMul, Nat.reduceSub, Nat.reduceLT, Nat.reduceLeDiff, Nat.reduceEqDiff, Nat.reduceMod, Nat.reduceDiv, q_R rt.1, r_qd rt, hx, r_wh rt hx, z]) (by
    rintro t ⟨hq, ht⟩
    have rt := r_rl_eq r1 hq (by decide)
    rw [L_X12_laysNow_6]
    simp (disch := omega) only [q_ckt, q_lt, q_cI, q_cJ, q_cV, q_cP, q_xI, q_xV, q_xP, q_xJ, g_gk, g_ga, g_gw, g_gp, g_gq, g_P, g_J, q_I_s, q_I_n, q_I_k, nI_add, pk_sub, pk_mul, nI_clamp, n_lt0, n_0lt, n_eq0, n_lt, n_le, n_eq, n_m1, n_m2, n_m9, n_12, n_19, n_10, n_01, n_1n1, n_0n1, n_1n0, n_0n0, n_dI, n_m1lt, q_inb, n_nar, n_nar0, n_nar1, n_bool, Bool.false_eq_true, Bool.true_eq_false, if_true, if_false, ↓reduceIte, Nat.reduceAdd, Nat.reduceMul, Nat.reduceSub, Nat.reduceLT, Nat.reduceLeDiff, Nat.reduceEqDiff, Nat.reduceMod, Nat.reduceDiv, q_R rt.1, r_qd rt, Nat.lt_irrefl]) (i := 0) (t := M1) (by omega) ⟨q_eq.rf _ _, fun j hj => absurd hj (by omega)⟩
  obtain ⟨N, ⟨q2, a2⟩, e2⟩ := L
  refine ⟨N, ?_, (q1.sub (by decide)).tr (q2.sub (by decide)), fun p hp => ?_⟩
  · rw [E_X12_laysNow]
    simp (disch := omega) only [q_ckt, q_lt, q_cI, q_cJ, q_cV, q_cP, q_xI, q_xV, q_xP, q_xJ, g_gk, g_ga, g_gw, g_gp, g_gq, g_P, g_J, q_I_s, q_I_n, q_I_k, nI_add, pk_sub, pk_mul, nI_clamp, n_lt0, n_0lt, n_eq0, n_lt, n_le, n_eq, n_m1, n_m2, n_m9, n_12, n_19, n_10, n_01, n_1n1, n_0n1, n_1n0, n_0n0, n_dI, n_m1lt, q_inb, n_nar, n_nar0, n_nar1, n_bool, Bool.false_eq_true, Bool.true_eq_false, if_true, if_false, ↓reduceIte, Nat.reduceAdd, Nat.reduceMul, Nat.reduceSub, Nat.reduceLT, Nat.reduceLeDiff, Nat.reduceEqDiff, Nat.reduceMod, Nat.reduceDiv, q_R h.1, e1]
    exact e2
  · unfold k_mem at hp
    unfold k_nk
    cases e : k_pl K p with
    | none => rw [e] at hp; exact nomatch hp
    | some j =>
      obtain ⟨h1, h2⟩ := k_pl_some e
      rw [← h2]
      exact a2 j h1
end SHR
section SHS
variable {L : Nat} {xs : Nat → Int32}
theorem S_worthOf (a : Int32) : q_St L xs (q_Iv L xs) (m_L_worthOf 200 1 a 436) (m_X12_worthOf 200 412 a) := by
  refine q_St_mk (x := m_X11_worthOf 199 1 a) (fun M => E_L_worthOf 199 1 a 436 M) fun M hp hI => ?_
  have hc := c_I_c hp hI.1
  have hr := c_I_r hp hI.1
  generalize M.1 413 = K at hc hr
  have hk := hc.2.2.1
  have hb := k_bds hk
  have hmb := k_mb_lt hk
  by_cases h6 : k_m K ≤ 6
  · have ns := c_ns2 (d := 196) (lo := 0) (hi := 8) (a := a) hc (by decide) (by decide)
    by_cases hset : a &&& (nI (k_mb K) ^^^ (-1 : Int32)) = 0
    · obtain ⟨S, hS, rfl, hm⟩ := n_sub hmb hset
      have cl := k_card_le S hS
      rw [if_pos hset, n_bc S hS] at ns
      have ns' : m_X11_needSet 198 1 (nI S) (nI 0) (nI 8) M = ir_oV M := by
        rw [ns]
        simp (disch := omega) only [q_ckt, q_lt, q_cI, q_cJ, q_cV, q_cP, q_xI, q_xV, q_xP, q_xJ, g_gk, g_ga, g_gw, g_gp, g_gq, g_P, g_J, q_I_s, q_I_n, q_I_k, nI_add, pk_sub, pk_mul, nI_clamp, n_lt0, n_0lt, n_eq0, n_lt, n_le, n_eq, n_m1, n_m2, n_m9, n_12, n_19, n_10, n_01, n_1n1, n_0n1, n_1n0, n_0n0, n_dI, n_m1lt, q_inb, n_nar, n_nar0, n_nar1, n_bool, Bool.false_eq_true, Bool.true_eq_false, if_true, if_false, ↓reduceIte, Nat.reduceAdd, Nat.reduceMul, Nat.reduceSub, Nat.reduceLT, Nat.reduceLeDiff, Nat.reduceEqDiff, Nat.reduceMod, Nat.reduceDiv, show ¬ k_card S < 0 by omega, show ¬ 8 < k_card S by omega]
      have hSn : ∀ p, S.testBit p = true → p < k_n K := fun p hp' => by
        obtain ⟨j, hj⟩ := k_set_m hk hm hp'
        obtain ⟨h1, h2⟩ := k_pl_some hj
        have := k_qn hk h1
        omega
      obtain ⟨M1, e1, s1, w1⟩ := c_wei (d := 187) hc hS hm h6
      have wv := w1 S hS (k_dif_0.mpr fun i hi => hi)
      refine Or.inl ⟨ir_I M1 130 S, ⟨M1, ?_, s1⟩, fun M' s => ?_⟩
      · have n255 : nI S &&& nI 255 = nI S := by
          rw [n_and]
          congr 1
          exact k_bit_eq fun i => by
            rw [Nat.testBit_and]
            cases e : S.testBit i
            · rfl
            · have : i < 8 := by
                rcases Nat.lt_or_ge i 8 with q | q
                · exact q
                · rw [k_256 hS q] at e; exact nomatch e
              have h8 : ∀ i, i < 8 → (255 : Nat).testBit i = true := by decide
              rw [h8 i this]; rfl
        have wo : m_X7_worthOfSet 198 129 (nI S) M1 = ir_oI (ir_I M1 130 S) M1 := by
          rw [E_X7_worthOfSet 197]
          simp (disch := omega) only [q_ckt, q_lt, q_cI, q_cJ, q_cV, q_cP, q_xI, q_xV, q_xP, q_xJ, g_gk, g_ga, g_gw, g_gp, g_gq, g_P, g_J, q_I_s, q_I_n, q_I_k, nI_add, pk_sub, pk_mul, nI_clamp, n_lt0, n_0lt, n_eq0, n_lt, n_le, n_eq, n_m1, n_m2, n_m9, n_12, n_19, n_10, n_01, n_1n1, n_0n1, n_1n0, n_0n0, n_dI, n_m1lt, q_inb, n_nar, n_nar0, n_nar1, n_bool, Bool.false_eq_true, Bool.true_eq_false, if_true, if_false, ↓reduceIte, Nat.reduceAdd, Nat.reduceMul, Nat.reduceSub, Nat.reduceLT, Nat.reduceLeDiff, Nat.reduceEqDiff, Nat.reduceMod, Nat.reduceDiv, q_H s1.1.1, n255]
        rw [E_X11_worthOf 198]
        simp (disch := omega) only [q_ckt, q_lt, q_cI, q_cJ, q_cV, q_cP, q_xI, q_xV, q_xP, q_xJ, g_gk, g_ga, g_gw, g_gp, g_gq, g_P, g_J, q_I_s, q_I_n, q_I_k, nI_add, pk_sub, pk_mul, nI_clamp, n_lt0, n_0lt, n_eq0, n_lt, n_le, n_eq, n_m1, n_m2, n_m9, n_12, n_19, n_10, n_01, n_1n1, n_0n1, n_1n0, n_0n0, n_dI, n_m1lt, q_inb, n_nar, n_nar0, n_nar1, n_bool, Bool.false_eq_true, Bool.true_eq_false, if_true, if_false, ↓reduceIte, Nat.reduceAdd, Nat.reduceMul, Nat.reduceSub, Nat.reduceLT, Nat.reduceLeDiff, Nat.reduceEqDiff, Nat.reduceMod, Nat.reduceDiv, q_W hp, q_S hp (a := 12) (by decide), c_use hc, show ¬ 6 < k_m K by omega, ns', q_H hp, e1, q_W s1.1.1, q_H s1.1.1, wo]
      · have hr' := q_st_r s hr
        have h4 := r_4 (v := nI 0) hr'
        obtain ⟨N1, f1, t1, a1⟩ := r_lnow (d := 193) h4
        have r1 := r_rl_eq h4 t1 (by decide)
        have xn : r_xn K S [] N1 := ⟨r1, fun p hp' => a1 p (by rw [← k_mb_bit hk]; exact k_dif_0.mp hm p hp'), fun i hi => absurd hi (by show ¬ i < 0; omega)⟩
        obtain ⟨N2, v, f2, mv, t2⟩ := r_alone (d := 186) hS hSn xn
        have ev := k_mxs_u mv wv
        rw [ev] at f2
        have z4 : ir_I N2 412 4 = nI 0 := by rw [t2.2 4 (by decide), q_I_eq t1 (by decide)]; exact q_I_s
        refine ⟨N2, ?_, ((q_st_4 hr'.1 rfl).tr (q_st_eq h4.1 t1 (by decide))).tr (q_st_412 r1.1 t2.1 (by decide) (fun k hk => t2.2 k (by have := q_l2_412 hk; omega))), by rw [t2.1.2, t1.2]; rfl, z4⟩
        rw [E_X12_worthOf 199]
        simp (disch := omega) only [q_ckt, q_lt, q_cI, q_cJ, q_cV, q_cP, q_xI, q_xV, q_xP, q_xJ, g_gk, g_ga, g_gw, g_gp, g_gq, g_P, g_J, q_I_s, q_I_n, q_I_k, nI_add, pk_sub, pk_mul, nI_clamp, n_lt0, n_0lt, n_eq0, n_lt, n_le, n_eq, n_m1, n_m2, n_m9, n_12, n_19, n_10, n_01, n_1n1, n_0n1, n_1n0, n_0n0, n_dI, n_m1lt, q_inb, n_nar, n_nar0, n_nar1, n_bool, Bool.false_eq_true, Bool.true_eq_false, if_true, if_false, ↓reduceIte, Nat.reduceAdd, Nat.reduceMul, Nat.reduceSub, Nat.reduceLT, Nat.reduceLeDiff, Nat.reduceEqDiff, Nat.reduceMod, Nat.reduceDiv, q_R hr'.1, r_qd hr', show ¬ 6 < k_m K by omega, r_mb hr', n_dif, hm, L_X12_worthOf_30, f1, q_R r1.1, f2]
    · rw [if_neg hset] at ns
      refine Or.inr ⟨3, 2, by omega, by omega, ?_, fun _ => rfl, fun M' s => ⟨nI 0, _, ?_, q_st_4 s.1.1 (k := 4) (v := nI 2) rfl, rfl, q_I_s⟩⟩
      · rw [E_X11_worthOf 198]
        simp (disch := omega) only [q_ckt, q_lt, q_cI, q_cJ, q_cV, q_cP, q_xI, q_xV, q_xP, q_xJ, g_gk, g_ga, g_gw, g_gp, g_gq, g_P, g_J, q_I_s, q_I_n, q_I_k, nI_add, pk_sub, pk_mul, nI_clamp, n_lt0, n_0lt, n_eq0, n_lt, n_le, n_eq, n_m1, n_m2, n_m9, n_12, n_19, n_10, n_01, n_1n1, n_0n1, n_1n0, n_0n0, n_dI, n_m1lt, q_inb, n_nar, n_nar0, n_nar1, n_bool, Bool.false_eq_true, Bool.true_eq_false, if_true, if_false, ↓reduceIte, Nat.reduceAdd, Nat.reduceMul, Nat.reduceSub, Nat.reduceLT, Nat.reduceLeDiff, Nat.reduceEqDiff, Nat.reduceMod, Nat.reduceDiv, q_W hp, q_S hp (a := 12) (by decide), c_use hc, show ¬ 6 < k_m K by omega, ns]
      · have hr' := q_st_r s hr
        rw [E_X12_worthOf 199]
        simp (disch := omega) only [q_ckt, q_lt, q_cI, q_cJ, q_cV, q_cP, q_xI, q_xV, q_xP, q_xJ, g_gk, g_ga, g_gw, g_gp, g_gq, g_P, g_J, q_I_s, q_I_n, q_I_k, nI_add, pk_sub, pk_mul, nI_clamp, n_lt0, n_0lt, n_eq0, n_lt, n_le, n_eq, n_m1, n_m2, n_m9, n_12, n_19, n_10, n_01, n_1n1, n_0n1, n_1n0, n_0n0, n_dI, n_m1lt, q_inb, n_nar, n_nar0, n_nar1, n_bool, Bool.false_eq_true, Bool.true_eq_false, if_true, if_false, ↓reduceIte, Nat.reduceAdd, Nat.reduceMul, Nat.reduceSub, Nat.reduceLT, Nat.reduceLeDiff, Nat.reduceEqDiff, Nat.reduceMod, Nat.reduceDiv, q_R hr'.1, r_qd hr', show ¬ 6 < k_m K by omega, r_mb hr', hset, L_X12_worthOf_30]
  · refine Or.inr ⟨2, 1, by omega, by omega, ?_, fun _ => rfl, fun M' s => ⟨nI 0, _, ?_, q_st_4 s.1.1 (k := 4) (v := nI 1) rfl, rfl, q_I_s⟩⟩
    · rw [E_X11_worthOf 198]
      simp (disch := omega) only [q_ckt, q_lt, q_cI, q_cJ, q_cV, q_cP, q_xI, q_xV, q_xP, q_xJ, g_gk, g_ga, g_gw, g_gp, g_gq, g_P, g_J, q_I_s, q_I_n, q_I_k, nI_add, pk_sub, pk_mul, nI_clamp, n_lt0, n_0lt, n_eq0, n_lt, n_le, n_eq, n_m1, n_m2, n_m9, n_12, n_19, n_10, n_01, n_1n1, n_0n1, n_1n0, n_0n0, n_dI, n_m1lt, q_inb, n_nar, n_nar0, n_nar1, n_bool, Bool.false_eq_true, Bool.true_eq_false, if_true, if_false, ↓reduceIte, Nat.reduceAdd, Nat.reduceMul, Nat.reduceSub, Nat.reduceLT, Nat.reduceLeDiff, Nat.reduceEqDiff, Nat.reduceMod, Nat.reduceDiv, q_W hp, q_S hp (a := 12) (by decide), c_use hc, show 6 < k_m K by omega]
    · have hr' := q_st_r s hr
      rw [E_X12_worthOf 199]
      simp (disch := omega) only [q_ckt, q_lt, q_cI, q_cJ, q_cV, q_cP, q_xI, q_xV, q_xP, q_xJ, g_gk, g_ga, g_gw, g_gp, g_gq, g_P, g_J, q_I_s, q_I_n, q_I_k, nI_add, pk_sub, pk_mul, nI_clamp, n_lt0, n_0lt, n_eq0, n_lt, n_le, n_eq, n_m1, n_m2, n_m9, n_12, n_19, n_10, n_01, n_1n1, n_0n1, n_1n0, n_0n0, n_dI, n_m1lt, q_inb, n_nar, n_nar0, n_nar1, n_bool, Bool.false_eq_true, Bool.true_eq_false, if_true, if_false, ↓reduceIte, Nat.reduceAdd, Nat.reduceMul, Nat.reduceSub, Nat.reduceLT, Nat.reduceLeDiff, Nat.reduceEqDiff, Nat.reduceMod, Nat.reduceDiv, q_R hr'.1, r_qd hr', show 6 < k_m K by omega, L_X12_worthOf_30]
end SHS
