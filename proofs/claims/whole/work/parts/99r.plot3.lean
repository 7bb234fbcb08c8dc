/-! plots in step -/
def k_bl (S n : Nat) : List Nat := (List.range n).filter (fun p => S.testBit p)
theorem k_bl_s (S n : Nat) : k_bl S (n + 1) = if S.testBit n = true then k_bl S n ++ [n] else k_bl S n := by
  unfold k_bl
  rw [List.range_succ, List.filter_append]
  by_cases q : S.testBit n = true
  · rw [if_pos q, List.filter_cons_of_pos q]
    rfl
  · rw [if_neg q, List.filter_cons_of_neg q]
    exact List.append_nil _
theorem k_bl_len : ∀ S, S < 256 → (k_bl S 8).length = k_card S := by decide +kernel
theorem k_bl_st {S n : Nat} (h : ∀ i, n ≤ i → S.testBit i = false) : ∀ r, k_bl S (n + r) = k_bl S n
  | 0 => rfl
  | r + 1 => by
    rw [show n + (r + 1) = n + r + 1 by omega, k_bl_s, h _ (by omega), if_neg (by decide), k_bl_st h r]
theorem k_bl_mono {S n : Nat} : ∀ r, ∃ l, k_bl S (n + r) = k_bl S n ++ l
  | 0 => ⟨[], (List.append_nil _).symm⟩
  | r + 1 => by
    obtain ⟨l, e⟩ := k_bl_mono (S := S) (n := n) r
    rw [show n + (r + 1) = n + r + 1 by omega, k_bl_s, e]
    by_cases q : S.testBit (n + r) = true
    · rw [if_pos q]; exact ⟨l ++ [n + r], List.append_assoc _ _ _⟩
    · rw [if_neg q]; exact ⟨l, rfl⟩
theorem k_bl_g {S n i : Nat} (hi : i < (k_bl S n).length) : (k_bl S n).getD i 0 < n ∧ S.testBit ((k_bl S n).getD i 0) = true := by
  have hm : (k_bl S n).getD i 0 ∈ k_bl S n := by
    rw [List.getD_eq_getElem?_getD, List.getElem?_eq_getElem hi]
    exact List.getElem_mem hi
  unfold k_bl at hm ⊢
  rw [List.mem_filter, List.mem_range] at hm
  exact hm
theorem k_bl_inc {S : Nat} : ∀ n i i', i < i' → i' < (k_bl S n).length → (k_bl S n).getD i 0 < (k_bl S n).getD i' 0
  | 0, i, i', _, h2 => absurd h2 (by show ¬ i' < 0; omega)
  | n + 1, i, i', h1, h2 => by
    rw [k_bl_s] at h2 ⊢
    by_cases q : S.testBit n = true
    · rw [if_pos q] at h2 ⊢
      rw [List.length_append] at h2
      have e1 : (k_bl S n ++ [n]).getD i 0 = (k_bl S n).getD i 0 := by
        rw [List.getD_eq_getElem?_getD, List.getD_eq_getElem?_getD, List.getElem?_append_left (by have : [n].length = 1 := rfl; omega)]
      rw [e1]
      by_cases q2 : i' < (k_bl S n).length
      · rw [show (k_bl S n ++ [n]).getD i' 0 = (k_bl S n).getD i' 0 by rw [List.getD_eq_getElem?_getD, List.getD_eq_getElem?_getD, List.getElem?_append_left q2]]
        exact k_bl_inc n i i' h1 q2
      · have : [n].length = 1 := rfl
        have e2 : (k_bl S n ++ [n]).getD i' 0 = n := by
          rw [List.getD_eq_getElem?_getD, List.getElem?_append_right (by omega), show i' - (k_bl S n).length = 0 by omega]
          rfl
        rw [e2]
        exact (k_bl_g (by omega)).1
    · rw [if_neg q] at h2 ⊢
      exact k_bl_inc n i i' h1 h2
theorem k_bl_inj {S n i i' : Nat} (h1 : i < (k_bl S n).length) (h2 : i' < (k_bl S n).length) (e : (k_bl S n).getD i 0 = (k_bl S n).getD i' 0) : i = i' := by
  rcases Nat.lt_trichotomy i i' with q | q | q
  · have := k_bl_inc n i i' q h2; omega
  · exact q
  · have := k_bl_inc n i' i q h1; omega
def k_pp (S : Nat) (i : Nat) : Nat := (k_bl S 8).getD i 0
def k_jj (K : Nat → Int32) (S : Nat) (i : Nat) : Nat := (k_pl K (k_pp S i)).getD 0
section PLS
variable {K : Nat → Int32} {S : Nat} {M : ir_M} {d : Nat}
theorem k_bl_8 (hk : k_ok K) (hm : k_dif S (k_mb K) = 0) : k_bl S 8 = k_bl S (k_n K) := by
  have hb := k_bds hk
  have h : ∀ i, k_n K ≤ i → S.testBit i = false := fun i hi => by
    cases e : S.testBit i
    · rfl
    · obtain ⟨j, hj⟩ := k_set_m hk hm e
      obtain ⟨h1, h2⟩ := k_pl_some hj
      have := k_qn hk h1
      omega
  have := k_bl_st h (8 - k_n K)
  rw [show k_n K + (8 - k_n K) = 8 by omega] at this
  exact this
theorem k_jj_pl (hk : k_ok K) (hS : S < 256) (hm : k_dif S (k_mb K) = 0) {i : Nat} (hi : i < k_card S) : k_pl K (k_pp S i) = some (k_jj K S i) := by
  obtain ⟨j, hj⟩ := k_set_m hk hm (k_bl_g (S := S) (n := 8) (i := i) (by rw [k_bl_len S hS]; exact hi)).2
  unfold k_jj k_pp
  rw [hj]
  rfl
theorem k_pp_x {x i : Nat} (hx : x ≤ 8) (hi : i < (k_bl S x).length) : (k_bl S x).getD i 0 = k_pp S i := by
  obtain ⟨l, e⟩ := k_bl_mono (S := S) (n := x) (8 - x)
  rw [show x + (8 - x) = 8 by omega] at e
  unfold k_pp
  rw [e, List.getD_eq_getElem?_getD, List.getD_eq_getElem?_getD, List.getElem?_append_left hi]
theorem k_bl_le {x y : Nat} (h : x ≤ y) : (k_bl S x).length ≤ (k_bl S y).length := by
  obtain ⟨l, e⟩ := k_bl_mono (S := S) (n := x) (y - x)
  rw [show x + (y - x) = y by omega] at e
  rw [e, List.length_append]
  omega
theorem k_pp_n {x : Nat} (hx : x < 8) (h : S.testBit x = true) : k_pp S (k_bl S x).length = x := by
  have e := k_bl_s S x
  rw [if_pos h] at e
  rw [← k_pp_x (x := x + 1) (by omega) (by rw [e, List.length_append]; have : [x].length = 1 := rfl; omega), e, List.getD_eq_getElem?_getD, List.getElem?_append_right (Nat.le_refl _), Nat.sub_self]
  rfl
/-- the class gathers them -/
theorem c_ps (h : c_rl M 12 K) (hP : c_pcP M) (hS : S < 256) (hm : k_dif S (k_mb K) = 0) (h3 : k_card S ≤ 3) (h0 : ir_I M 125 3 = nI 0) : ∃ t, v_X3_search_34 (d + 2) 125 (nI S) (nI 0) M = ir_cV (m_X3_choose (d + 2) 125 (nI 0) t) (fun M1 => ir_oV M1) ∧ q_eq [125, 127, 128] M t ∧ (∀ k, k ≠ 3 → ir_I t 125 k = ir_I M 125 k) ∧ ir_I t 125 3 = nI (k_card S) ∧ (∀ i, i < k_card S → ir_I t 127 i = nI (k_jj K S i)) ∧ ∀ i, i < k_card S → ir_I t 128 i = K (18 + k_pp S i) := by
  have hk := h.2.2.1
  have hb := k_bds hk
  have len : (k_bl S (k_n K)).length = k_card S := by rw [← k_bl_8 hk hm]; exact k_bl_len S hS
  have key : ∀ (r x : Nat) (t : ir_M), x + r = k_n K → q_eq [125, 127, 128] M t → (∀ k, k ≠ 3 → ir_I t 125 k = ir_I M 125 k) → ir_I t 125 3 = nI (k_bl S x).length → (∀ i, i < (k_bl S x).length → ir_I t 127 i = nI (k_jj K S i)) → (∀ i, i < (k_bl S x).length → ir_I t 128 i = K (18 + k_pp S i)) → ∃ t', v_X3_search_34 (d + 2) 125 (nI S) (nI x) t = ir_cV (m_X3_choose (d + 2) 125 (nI 0) t') (fun M1 => ir_oV M1) ∧ q_eq [125, 127, 128] M t' ∧ (∀ k, k ≠ 3 → ir_I t' 125 k = ir_I M 125 k) ∧ ir_I t' 125 3 = nI (k_card S) ∧ (∀ i, i < k_card S → ir_I t' 127 i = nI (k_jj K S i)) ∧ ∀ i, i < k_card S → ir_I t' 128 i = K (18 + k_pp S i) := by
    intro r
    induction r with
    | zero =>
      intro x t hx hq hf g3 g7 g8
      have ct := q_st_c (q_st_eq h.1 hq (by decide)) h
      have : x = k_n K := by omega
      subst this
      rw [len] at g3 g7 g8
      refine ⟨t, ?_, hq, hf, g3, g7, g8⟩
      rw [L_X3_search_34]
      simp (disch := omega) only [q_ckt, q_lt, q_cI, q_cJ, q_cV, q_cP, q_xI, q_xV, q_xP, q_xJ, g_gk, g_ga, g_gw, g_gp, g_gq, g_P, g_J, q_I_s, q_I_n, q_I_k, nI_add, pk_sub, pk_mul, nI_clamp, n_lt0, n_0lt, n_eq0, n_lt, n_le, n_eq, n_m1, n_m2, n_m9, n_12, n_19, n_10, n_01, n_1n1, n_0n1, n_1n0, n_0n0, n_dI, n_m1lt, q_inb, n_nar, n_nar0, n_nar1, n_bool, Bool.false_eq_true, Bool.true_eq_false, if_true, if_false, ↓reduceIte, Nat.reduceAdd, Nat.reduceMul, Nat.reduceSub, Nat.reduceLT, Nat.reduceLeDiff, Nat.reduceEqDiff, Nat.reduceMod, Nat.reduceDiv, c_pcg ct.1 (c_pcP_eq hq hP), q_T ct.1, c_use ct, Nat.lt_irrefl, q_L ct.1]
    | succ r ih =>
      intro x t hx hq hf g3 g7 g8
      have ct := q_st_c (q_st_eq h.1 hq (by decide)) h
      have pt := c_pcg ct.1 (c_pcP_eq hq hP)
      have le := k_bl_le (S := S) (show x ≤ k_n K by omega)
      rw [len] at le
      by_cases q3 : (k_bl S x).length < 3
      · by_cases qb : S.testBit x = true
        · have e := k_bl_s S x
          rw [if_pos qb] at e
          have le2 : (k_bl S (x + 1)).length = (k_bl S x).length + 1 := by rw [e, List.length_append]; rfl
          have pn := k_pp_n (S := S) (show x < 8 by omega) qb
          have le3 := k_bl_le (S := S) (show x + 1 ≤ k_n K by omega)
          rw [len, le2] at le3
          have pj := k_jj_pl hk hS hm (i := (k_bl S x).length) (by omega)
          rw [pn] at pj
          have pl := c_pl (d := d + 1) ct (show x < 2 ^ 31 by omega)
          rw [pj] at pl
          have hj := (k_pl_some pj).1
          have as1 := (c_use ct).2.2.2.2.2.2.2.2.2.2.1 x (by omega)
          obtain ⟨t1, et1⟩ : ∃ N, N = ir_sI t 127 (k_bl S x).length (nI (k_jj K S (k_bl S x).length)) := ⟨_, rfl⟩
          obtain ⟨t2, et2⟩ : ∃ N, N = ir_sI t1 128 (k_bl S x).length (nI (k_a K x)) := ⟨_, rfl⟩
          obtain ⟨t3, et3⟩ : ∃ N, N = ir_sI t2 125 3 (nI ((k_bl S x).length + 1)) := ⟨_, rfl⟩
          have q1 : q_eq [125, 127, 128] t t3 := by
            rw [et3, et2, et1]
            exact ((q_eq.sI (by decide)).tr (q_eq.sI (by decide))).tr (q_eq.sI (by decide))
          obtain ⟨t', e', r1, r2, r3, r4, r5⟩ := ih (x + 1) t3 (by omega) (hq.tr q1) (fun k hk' => by rw [et3, q_I_k hk', et2, q_I_n (by decide), et1, q_I_n (by decide)]; exact hf k hk') (by rw [et3, q_I_s, le2]) (fun i hi => by
            rw [et3, q_I_n (by decide), et2, q_I_n (by decide), et1, q_I_u]
            by_cases q : i = (k_bl S x).length
            · rw [if_pos q, q]
            · rw [if_neg q]; exact g7 i (by omega)) (fun i hi => by
            rw [et3, q_I_n (by decide), et2, q_I_u]
            by_cases q : i = (k_bl S x).length
            · rw [if_pos q, q, pn, (k_use hk).2.2.2.2.2.2 x (by omega)]
            · rw [if_neg q, et1, q_I_n (by decide)]; exact g8 i (by omega))
          refine ⟨t', ?_, r1, r2, r3, r4, r5⟩
          rw [← e', L_X3_search_34]
          simp (disch := omega) only [q_ckt, q_lt, q_cI, q_cJ, q_cV, q_cP, q_xI, q_xV, q_xP, q_xJ, g_gk, g_ga, g_gw, g_gp, g_gq, g_P, g_J, q_I_s, q_I_n, q_I_k, nI_add, pk_sub, pk_mul, nI_clamp, n_lt0, n_0lt, n_eq0, n_lt, n_le, n_eq, n_m1, n_m2, n_m9, n_12, n_19, n_10, n_01, n_1n1, n_0n1, n_1n0, n_0n0, n_dI, n_m1lt, q_inb, n_nar, n_nar0, n_nar1, n_bool, Bool.false_eq_true, Bool.true_eq_false, if_true, if_false, ↓reduceIte, Nat.reduceAdd, Nat.reduceMul, Nat.reduceSub, Nat.reduceLT, Nat.reduceLeDiff, Nat.reduceEqDiff, Nat.reduceMod, Nat.reduceDiv, pt, q_T ct.1, c_use ct, show x < k_n K by omega, q_L ct.1, g3, q3, n_bit, n_bt, qb, q_S ct.1 (a := 12) (by decide), pl, k_on]
          rw [et3, et2, et1]
        · have e := k_bl_s S x
          rw [if_neg qb] at e
          obtain ⟨t', e', r1⟩ := ih (x + 1) t (by omega) hq hf (by rw [e]; exact g3) (by rw [e]; exact g7) (by rw [e]; exact g8)
          refine ⟨t', ?_, r1⟩
          rw [← e', L_X3_search_34]
          simp (disch := omega) only [q_ckt, q_lt, q_cI, q_cJ, q_cV, q_cP, q_xI, q_xV, q_xP, q_xJ, g_gk, g_ga, g_gw, g_gp, g_gq, g_P, g_J, q_I_s, q_I_n, q_I_k, nI_add, pk_sub, pk_mul, nI_clamp, n_lt0, n_0lt, n_eq0, n_lt, n_le, n_eq, n_m1, n_m2, n_m9, n_12, n_19, n_10, n_01, n_1n1, n_0n1, n_1n0, n_0n0, n_dI, n_m1lt, q_inb, n_nar, n_nar0, n_nar1, n_bool, Bool.false_eq_true, Bool.true_eq_false, if_true, if_false, ↓reduceIte, Nat.reduceAdd, Nat.reduceMul, Nat.reduceSub, Nat.reduceLT, Nat.reduceLeDiff, Nat.reduceEqDiff, Nat.reduceMod, Nat.reduceDiv, pt, q_T ct.1, c_use ct, show x < k_n K by omega, q_L ct.1, g3, q3, n_bit, n_bt, Bool.eq_false_iff.mpr qb]
      · have el : (k_bl S x).length = k_card S := by omega
        rw [el] at g3 g7 g8 q3
        refine ⟨t, ?_, hq, hf, g3, g7, g8⟩
        rw [L_X3_search_34]
        simp (disch := omega) only [q_ckt, q_lt, q_cI, q_cJ, q_cV, q_cP, q_xI, q_xV, q_xP, q_xJ, g_gk, g_ga, g_gw, g_gp, g_gq, g_P, g_J, q_I_s, q_I_n, q_I_k, nI_add, pk_sub, pk_mul, nI_clamp, n_lt0, n_0lt, n_eq0, n_lt, n_le, n_eq, n_m1, n_m2, n_m9, n_12, n_19, n_10, n_01, n_1n1, n_0n1, n_1n0, n_0n0, n_dI, n_m1lt, q_inb, n_nar, n_nar0, n_nar1, n_bool, Bool.false_eq_true, Bool.true_eq_false, if_true, if_false, ↓reduceIte, Nat.reduceAdd, Nat.reduceMul, Nat.reduceSub, Nat.reduceLT, Nat.reduceLeDiff, Nat.reduceEqDiff, Nat.reduceMod, Nat.reduceDiv, pt, q_T ct.1, c_use ct, show x < k_n K by omega, q_L ct.1, g3, q3]
  exact key (k_n K) 0 M (by omega) (q_eq.rf _ _) (fun _ _ => rfl) h0 (fun i hi => absurd hi (by show ¬ i < 0; omega)) (fun i hi => absurd hi (by show ¬ i < 0; omega))
/-- the reference gathers them -/
theorem r_ps {V w : Int32} (h : r_rl M K) (hS : S < 256) (hm : k_dif S (k_mb K) = 0) (h3 : k_card S ≤ 3) (h0 : ir_I M 412 33 = nI 0) : ∃ t, v_X12_plot_104 (d + 2) 412 (nI S) V w (nI 0) M = v_X12_plot_104 (d + 2) 412 (nI S) V w (nI (k_n K)) t ∧ q_eq [412, 423] M t ∧ (∀ k, k ≠ 33 → ir_I t 412 k = ir_I M 412 k) ∧ ir_I t 412 33 = nI (k_card S) ∧ (∀ i, i < k_card S → ir_I t 423 i = nI (k_pp S i)) := by
  have hk := h.2.1
  have hb := k_bds hk
  have len : (k_bl S (k_n K)).length = k_card S := by rw [← k_bl_8 hk hm]; exact k_bl_len S hS
  have L := q_up (σ := ir_M) (V := fun x t => v_X12_plot_104 (d + 2) 412 (nI S) V w (nI x) t) (N := k_n K) (I := fun x t => q_eq [412, 423] M t ∧ (∀ k, k ≠ 33 → ir_I t 412 k = ir_I M 412 k) ∧ ir_I t 412 33 = nI (k_bl S x).length ∧ ∀ i, i < (k_bl S x).length → ir_I t 423 i = nI (k_pp S i)) (K := fun t => v_X12_plot_104 (d + 2) 412 (nI S) V w (nI (k_n K)) t) (by
    rintro x t hx ⟨hq, hf, g3, g7⟩
    have ct : r_rl t K := ⟨q_PI_eq hq h.1, hk, fun k => by rw [q_I_eq hq (by decide)]; exact h.2.2 k⟩
    have hh := r_has (M := t) (d := d + 1) hS (show x < 8 by omega)
    have e := k_bl_s S x
    by_cases qb : S.testBit x = true
    · rw [if_pos qb] at e hh
      have le2 : (k_bl S (x + 1)).length = (k_bl S x).length + 1 := by rw [e, List.length_append]; rfl
      have pn := k_pp_n (S := S) (show x < 8 by omega) qb
      have le3 := k_bl_le (S := S) (show x + 1 ≤ k_n K by omega)
      rw [len, le2] at le3
      obtain ⟨t1, et1⟩ : ∃ N, N = ir_sI t 423 (k_bl S x).length (nI x) := ⟨_, rfl⟩
      have p1 : q_PI t1 := by rw [et1]; exact ct.1
      have g31 : ir_I t1 412 33 = nI (k_bl S x).length := by rw [et1, q_I_n (by decide)]; exact g3
      refine ⟨ir_sI t1 412 33 (nI ((k_bl S x).length + 1)), ⟨hq.tr (by rw [et1]; exact (q_eq.sI (by decide)).tr (q_eq.sI (by decide))), fun k hk' => by rw [q_I_k hk', et1, q_I_n (by decide)]; exact hf k hk', by rw [q_I_s, le2], fun i hi => ?_⟩, ?_⟩
      · rw [q_I_n (by decide), et1, q_I_u]
        by_cases q : i = (k_bl S x).length
        · rw [if_pos q, q, pn]
        · rw [if_neg q]; exact g7 i (by omega)
      · rw [L_X12_plot_104]
        simp (disch := omega) only [q_ckt, q_lt, q_cI, q_cJ, q_cV, q_cP, q_xI, q_xV, q_xP, q_xJ, g_gk, g_ga, g_gw, g_gp, g_gq, g_P, g_J, q_I_s, q_I_n, q_I_k, nI_add, pk_sub, pk_mul, nI_clamp, n_lt0, n_0lt, n_eq0, n_lt, n_le, n_eq, n_m1, n_m2, n_m9, n_12, n_19, n_10, n_01, n_1n1, n_0n1, n_1n0, n_0n0, n_dI, n_m1lt, q_inb, n_nar, n_nar0, n_nar1, n_bool, Bool.false_eq_true, Bool.true_eq_false, if_true, if_false, ↓reduceIte, Nat.reduceAdd, Nat.reduceMul, Nat.reduceSub, Nat.reduceLT, Nat.reduceLeDiff, Nat.reduceEqDiff, Nat.reduceMod, Nat.reduceDiv, q_R ct.1, r_pe ct, hx, hh, g3]
        rw [← et1]
    · rw [if_neg qb] at e hh
      refine ⟨t, ⟨hq, hf, by rw [e]; exact g3, by rw [e]; exact g7⟩, ?_⟩
      rw [L_X12_plot_104]
      simp (disch := omega) only [q_ckt, q_lt, q_cI, q_cJ, q_cV, q_cP, q_xI, q_xV, q_xP, q_xJ, g_gk, g_ga, g_gw, g_gp, g_gq, g_P, g_J, q_I_s, q_I_n, q_I_k, nI_add, pk_sub, pk_mul, nI_clamp, n_lt0, n_0lt, n_eq0, n_lt, n_le, n_eq, n_m1, n_m2, n_m9, n_12, n_19, n_10, n_01, n_1n1, n_0n1, n_1n0, n_0n0, n_dI, n_m1lt, q_inb, n_nar, n_nar0, n_nar1, n_bool, Bool.false_eq_true, Bool.true_eq_false, if_true, if_false, ↓reduceIte, Nat.reduceAdd, Nat.reduceMul, Nat.reduceSub, Nat.reduceLT, Nat.reduceLeDiff, Nat.reduceEqDiff, Nat.reduceMod, Nat.reduceDiv, q_R ct.1, r_pe ct, hx, hh]) (by
    rintro t _
    rfl) (i := 0) (t := M) (by omega) ⟨q_eq.rf _ _, fun _ _ => rfl, h0, fun i hi => absurd hi (by show ¬ i < 0; omega)⟩
  obtain ⟨t, ⟨a, b, c, e⟩, ee⟩ := L
  rw [len] at c e
  exact ⟨t, ee, a, b, c, e⟩
end PLS
section PLT
variable {K : Nat → Int32} {S vp V : Nat} {M : ir_M} {d : Nat}
def k_pr (K : Nat → Int32) (S vp : Nat) : Bool × Int32 × (Nat → Int32) := k_pc K vp (k_pp S) (k_jj K S) (k_card S) (k_card S) (k_as K) (fun _ => 0) (false, 0, fun _ => 0)
theorem c_psr (h : c_rl M 12 K) (hS : S < 256) (hm : k_dif S (k_mb K) = 0) (h3 : k_card S ≤ 3) (hv : vp < k_m K) (hA : ∀ j, j < k_m K → ir_I M 117 (3 + j) = k_as K j) (hc : ∀ j, j < k_m K → ir_I M 119 j = nI (k_ch K j (k_g K))) : ∃ t, m_X3_search (d + 9) 125 4 12 116 (nI S) (nI vp) M = ir_oV t ∧ q_st 0 M t ∧ ir_I t 125 0 = (k_pr K S vp).2.1 ∧ ∀ i, i < k_card S → ir_I t 126 i = (k_pr K S vp).2.2 i := by
  have hk := h.2.2.1
  have hb := k_bds hk
  obtain ⟨N1, e1⟩ : ∃ N, N = ir_sP M 125 7 4 := ⟨_, rfl⟩
  obtain ⟨N2, e2⟩ : ∃ N, N = ir_sP N1 125 8 12 := ⟨_, rfl⟩
  obtain ⟨N3, e3⟩ : ∃ N, N = ir_sP N2 125 9 116 := ⟨_, rfl⟩
  have s1 : q_st 0 M N1 := by rw [e1]; exact q_st_P h.1 (by decide +kernel) (by decide) (by decide)
  have s2 : q_st 0 N1 N2 := by rw [e2]; exact q_st_P s1.1.1 (by decide +kernel) (by decide) (by decide)
  have s3 : q_st 0 N2 N3 := by rw [e3]; exact q_st_P s2.1.1 (by decide +kernel) (by decide) (by decide)
  have iN : ∀ a k, ir_I N3 a k = ir_I M a k := fun a k => by rw [e3, p_I, e2, p_I, e1, p_I]
  have P3 : c_pcP N3 := by
    refine ⟨?_, ?_, ?_⟩
    · rw [e3, p_Pk (by decide), e2, p_Pk (by decide), e1, p_Ps]
    · rw [e3, p_Pk (by decide), e2, p_Ps]
    · rw [e3, p_Ps]
  obtain ⟨N4, e4⟩ : ∃ N, N = ir_sI (ir_sI (ir_sI N3 125 4 (nI vp)) 125 2 (nI 0)) 125 3 (nI 0) := ⟨_, rfl⟩
  have q4 : q_eq [125] N3 N4 := by rw [e4]; exact ((q_eq.sI (by decide)).tr (q_eq.sI (by decide))).tr (q_eq.sI (by decide))
  have s4 : q_st 0 M N4 := ((s1.tr s2).tr s3).tr (q_st_eq s3.1.1 q4 (by decide))
  have c4 := q_st_c s4 h
  have P4 := c_pcP_eq q4 P3
  obtain ⟨t1, f1, q1, g1, g3, g7, g8⟩ := c_ps (d := d + 6) (S := S) c4 P4 hS hm h3 (by rw [e4, q_I_s])
  have st1 := q_st_eq c4.1 q1 (by decide)
  have i4 : ∀ a, a ≠ 125 → ∀ k, ir_I N4 a k = ir_I M a k := fun a ha k => by rw [q_I_eq q4 (by simp [ha]), iN]
  have jin : ∀ i i', i < k_card S → i' < k_card S → k_jj K S i = k_jj K S i' → i = i' := fun i i' hi hi' e => by
    have a1 := (k_pl_some (k_jj_pl hk hS hm hi)).2
    have a2 := (k_pl_some (k_jj_pl hk hS hm hi')).2
    rw [e, a2] at a1
    exact k_bl_inj (S := S) (n := 8) (by rw [k_bl_len S hS]; exact hi) (by rw [k_bl_len S hS]; exact hi') a1.symm
  have hin : c_pin K vp (k_pp S) (k_jj K S) (k_card S) (k_card S) (k_as K) (fun _ => 0) t1 := by
    refine ⟨q_st_c st1 c4, c_pcP_eq q1 P4, g3, ?_, g7, fun j hj => ?_, fun j hj _ => ?_, fun i hi => absurd hi (by omega), fun i _ hi _ => g8 i hi⟩
    · rw [g1 4 (by decide), e4, q_I_k (by decide), q_I_k (by decide), q_I_s]
    · rw [q_I_eq q1 (by decide), i4 119 (by decide)]; exact hc j hj
    · rw [q_I_eq q1 (by decide), i4 117 (by decide)]; exact hA j hj
  have ro1 : c_ro t1 (k_card S) (false, 0, fun _ => 0) := Or.inl ⟨rfl, by rw [g1 2 (by decide), e4, q_I_k (by decide), q_I_s]; rfl⟩
  obtain ⟨t2, f2, -, b2, st2⟩ := c_pch (d := d + 3 - k_card S) h3 hv (fun i hi => (k_pl_some (k_jj_pl hk hS hm hi)).1) jin (k_card S) (Nat.le_refl _) (fun j hj => k_as_gd hk hj) hin ro1
  rw [show d + 3 - k_card S + 5 + k_card S = d + 8 by omega, Nat.sub_self] at f2
  have tr : (k_pr K S vp).1 = true := k_pc_t _ _ _ _
  refine ⟨t2, ?_, (s4.tr st1).tr st2, ?_⟩
  · have gv1 : ir_gv M 125 3 4 = true := q_gv0 h.1 rfl
    have gv2 : ir_gv N1 125 3 12 = true := q_gv0 s1.1.1 rfl
    have gv3 : ir_gv N2 125 3 116 = true := q_gv0 s2.1.1 rfl
    rw [E_X3_search]
    simp (disch := omega) only [q_ckt, q_lt, q_cI, q_cJ, q_cV, q_cP, q_xI, q_xV, q_xP, q_xJ, g_gk, g_ga, g_gw, g_gp, g_gq, g_P, g_J, q_I_s, q_I_n, q_I_k, nI_add, pk_sub, pk_mul, nI_clamp, n_lt0, n_0lt, n_eq0, n_lt, n_le, n_eq, n_m1, n_m2, n_m9, n_12, n_19, n_10, n_01, n_1n1, n_0n1, n_1n0, n_0n0, n_dI, n_m1lt, q_inb, n_nar, n_nar0, n_nar1, n_bool, Bool.false_eq_true, Bool.true_eq_false, if_true, if_false, ↓reduceIte, Nat.reduceAdd, Nat.reduceMul, Nat.reduceSub, Nat.reduceLT, Nat.reduceLeDiff, Nat.reduceEqDiff, Nat.reduceMod, Nat.reduceDiv, gv1]
    rw [← e1]
    simp (disch := omega) only [q_ckt, q_lt, q_cI, q_cJ, q_cV, q_cP, q_xI, q_xV, q_xP, q_xJ, g_gk, g_ga, g_gw, g_gp, g_gq, g_P, g_J, q_I_s, q_I_n, q_I_k, nI_add, pk_sub, pk_mul, nI_clamp, n_lt0, n_0lt, n_eq0, n_lt, n_le, n_eq, n_m1, n_m2, n_m9, n_12, n_19, n_10, n_01, n_1n1, n_0n1, n_1n0, n_0n0, n_dI, n_m1lt, q_inb, n_nar, n_nar0, n_nar1, n_bool, Bool.false_eq_true, Bool.true_eq_false, if_true, if_false, ↓reduceIte, Nat.reduceAdd, Nat.reduceMul, Nat.reduceSub, Nat.reduceLT, Nat.reduceLeDiff, Nat.reduceEqDiff, Nat.reduceMod, Nat.reduceDiv, gv2]
    rw [← e2]
    simp (disch := omega) only [q_ckt, q_lt, q_cI, q_cJ, q_cV, q_cP, q_xI, q_xV, q_xP, q_xJ, g_gk, g_ga, g_gw, g_gp, g_gq, g_P, g_J, q_I_s, q_I_n, q_I_k, nI_add, pk_sub, pk_mul, nI_clamp, n_lt0, n_0lt, n_eq0, n_lt, n_le, n_eq, n_m1, n_m2, n_m9, n_12, n_19, n_10, n_01, n_1n1, n_0n1, n_1n0, n_0n0, n_dI, n_m1lt, q_inb, n_nar, n_nar0, n_nar1, n_bool, Bool.false_eq_true, Bool.true_eq_false, if_true, if_false, ↓reduceIte, Nat.reduceAdd, Nat.reduceMul, Nat.reduceSub, Nat.reduceLT, Nat.reduceLeDiff, Nat.reduceEqDiff, Nat.reduceMod, Nat.reduceDiv, gv3]
    rw [← e3]
    simp (disch := omega) only [q_ckt, q_lt, q_cI, q_cJ, q_cV, q_cP, q_xI, q_xV, q_xP, q_xJ, g_gk, g_ga, g_gw, g_gp, g_gq, g_P, g_J, q_I_s, q_I_n, q_I_k, nI_add, pk_sub, pk_mul, nI_clamp, n_lt0, n_0lt, n_eq0, n_lt, n_le, n_eq, n_m1, n_m2, n_m9, n_12, n_19, n_10, n_01, n_1n1, n_0n1, n_1n0, n_0n0, n_dI, n_m1lt, q_inb, n_nar, n_nar0, n_nar1, n_bool, Bool.false_eq_true, Bool.true_eq_false, if_true, if_false, ↓reduceIte, Nat.reduceAdd, Nat.reduceMul, Nat.reduceSub, Nat.reduceLT, Nat.reduceLeDiff, Nat.reduceEqDiff, Nat.reduceMod, Nat.reduceDiv, q_L s3.1.1, show ir_isB (nI 0) = true from rfl, Bool.and_self]
    rw [← e4, f1]
    simp (disch := omega) only [q_ckt, q_lt, q_cI, q_cJ, q_cV, q_cP, q_xI, q_xV, q_xP, q_xJ, g_gk, g_ga, g_gw, g_gp, g_gq, g_P, g_J, q_I_s, q_I_n, q_I_k, nI_add, pk_sub, pk_mul, nI_clamp, n_lt0, n_0lt, n_eq0, n_lt, n_le, n_eq, n_m1, n_m2, n_m9, n_12, n_19, n_10, n_01, n_1n1, n_0n1, n_1n0, n_0n0, n_dI, n_m1lt, q_inb, n_nar, n_nar0, n_nar1, n_bool, Bool.false_eq_true, Bool.true_eq_false, if_true, if_false, ↓reduceIte, Nat.reduceAdd, Nat.reduceMul, Nat.reduceSub, Nat.reduceLT, Nat.reduceLeDiff, Nat.reduceEqDiff, Nat.reduceMod, Nat.reduceDiv, f2]
  · rcases b2 with ⟨a1, -⟩ | ⟨-, -, a3, a4⟩
    · rw [show (k_pc K vp (k_pp S) (k_jj K S) (k_card S) (k_card S) (k_as K) (fun _ => 0) (false, 0, fun _ => 0)).1 = true from tr] at a1
      exact nomatch a1
    · exact ⟨a3, a4⟩
theorem r_psr {w : Int32} (h : r_rl M K) (hS : S < 256) (hm : k_dif S (k_mb K) = 0) (h3 : k_card S ≤ 3) (hV : k_pl K V = some vp) (h4 : ir_I M 412 4 = nI 0) : ∃ t, v_X12_plot_87 (d + 12) 412 (nI S) (nI V) w M = (if w = 0 then ir_oI (ir_I t 412 34) t else ir_ck (ir_ga t 425 100 (w - nI 10)) (ir_oI (ir_I t 425 (w - nI 10).toNatClampNeg) t)) ∧ q_st 0 M t ∧ t.2 = M.2 ∧ ir_I t 412 4 = nI 0 ∧ ir_I t 412 34 = (k_pr K S vp).2.1 ∧ ∀ i, i < k_card S → ir_I t 425 i = (k_pr K S vp).2.2 i := by
  have hk := h.2.1
  have hb := k_bds hk
  obtain ⟨N1, e1⟩ : ∃ N, N = ir_sI M 412 33 (nI 0) := ⟨_, rfl⟩
  have s1 : q_st 0 M N1 := by rw [e1]; exact q_st_4 h.1 rfl
  have r1 := q_st_r s1 h
  obtain ⟨t1, f1, q1, g1, g3, g7⟩ := r_ps (d := d + 10) (V := nI V) (w := w) r1 hS hm h3 (by rw [e1, q_I_s])
  have p1 := q_PI_eq q1 r1.1
  have st1 : q_st 0 N1 t1 := by
    have ne : ∀ a, a ≠ 412 → a ≠ 423 → t1.1 a = N1.1 a := fun a h1 h2 => q1.1 a (by simp [h1, h2])
    refine ⟨⟨p1, fun a ha => ⟨ne a (by omega) (by omega), by rw [q1.2], by rw [q1.2]⟩, ?_, ?_⟩, fun a ha => ne a (fun q => by rw [q] at ha; exact nomatch ha) (fun q => by rw [q] at ha; exact nomatch ha), ⟨fun a k ha => ?_, fun a _ => by rw [q1.2]⟩, fun a k ha => congrFun (ne a (fun q => by rw [q] at ha; exact nomatch ha) (fun q => by rw [q] at ha; exact nomatch ha)) k⟩
    · show t1.2.2.2.2.1 ≤ N1.2.2.2.2.1 + 0
      rw [q1.2]
      exact Nat.le_refl _
    · show t1.2.2.2.2.2.1 ≤ N1.2.2.2.2.2.1 + 6 * 0
      rw [q1.2]
      exact Nat.le_refl _
    · by_cases q : a = 412
      · rw [q] at ha ⊢
        exact g1 k (fun w => by rw [w] at ha; exact nomatch ha)
      · exact congrFun (ne a q (fun w => by rw [w] at ha; exact nomatch ha)) k
  have rt1 := q_st_r st1 r1
  obtain ⟨t2, e2⟩ : ∃ N, N = ir_sI t1 412 35 (nI 0) := ⟨_, rfl⟩
  have s2 : q_st 0 t1 t2 := by rw [e2]; exact q_st_4 rt1.1 rfl
  have rt2 := q_st_r s2 rt1
  have pin : ∀ i i', i < k_card S → i' < k_card S → k_pp S i = k_pp S i' → i = i' := fun i i' hi hi' e => k_bl_inj (S := S) (n := 8) (by rw [k_bl_len S hS]; exact hi) (by rw [k_bl_len S hS]; exact hi') e
  have hin : r_pin K (k_pp S) (k_card S) (k_card S) (k_as K) (fun _ => 0) K t2 := by
    refine ⟨rt2, k_sa.rf, fun _ _ => rfl, ?_, fun i hi => ?_, fun _ _ _ => rfl, fun i hi => absurd hi (by omega)⟩
    · rw [e2, q_I_k (by decide)]; exact g3
    · rw [e2, q_I_n (by decide)]; exact g7 i hi
  have ro2 : r_ro t2 (k_card S) (false, 0, fun _ => 0) := Or.inl ⟨rfl, by rw [e2, q_I_s]; rfl⟩
  obtain ⟨t3, f3, -, b3, st3⟩ := r_pch (d := d + 4 - k_card S) hk h3 hV (fun i hi => k_jj_pl hk hS hm hi) pin (k_card S) (Nat.le_refl _) hin ro2
  rw [show d + 4 - k_card S + 8 + k_card S = d + 12 by omega, Nat.sub_self] at f3
  have tr : (k_pr K S vp).1 = true := k_pc_t _ _ _ _
  have m4 : ir_I t3 412 4 = nI 0 := by rw [st3.2.2.1 4 (by decide), e2, q_I_k (by decide), g1 4 (by decide), e1, q_I_k (by decide)]; exact h4
  refine ⟨t3, ?_, ((s1.tr st1).tr s2).tr st3.1, ?_, m4, ?_⟩
  · have p3 := st3.1.1.1
    rw [L_X12_plot_87]
    simp (disch := omega) only [q_ckt, q_lt, q_cI, q_cJ, q_cV, q_cP, q_xI, q_xV, q_xP, q_xJ, g_gk, g_ga, g_gw, g_gp, g_gq, g_P, g_J, q_I_s, q_I_n, q_I_k, nI_add, pk_sub, pk_mul, nI_clamp, n_lt0, n_0lt, n_eq0, n_lt, n_le, n_eq, n_m1, n_m2, n_m9, n_12, n_19, n_10, n_01, n_1n1, n_0n1, n_1n0, n_0n0, n_dI, n_m1lt, q_inb, n_nar, n_nar0, n_nar1, n_bool, Bool.false_eq_true, Bool.true_eq_false, if_true, if_false, ↓reduceIte, Nat.reduceAdd, Nat.reduceMul, Nat.reduceSub, Nat.reduceLT, Nat.reduceLeDiff, Nat.reduceEqDiff, Nat.reduceMod, Nat.reduceDiv, q_R h.1, h4, Nat.lt_irrefl]
    rw [← e1, f1, L_X12_plot_104]
    simp (disch := omega) only [q_ckt, q_lt, q_cI, q_cJ, q_cV, q_cP, q_xI, q_xV, q_xP, q_xJ, g_gk, g_ga, g_gw, g_gp, g_gq, g_P, g_J, q_I_s, q_I_n, q_I_k, nI_add, pk_sub, pk_mul, nI_clamp, n_lt0, n_0lt, n_eq0, n_lt, n_le, n_eq, n_m1, n_m2, n_m9, n_12, n_19, n_10, n_01, n_1n1, n_0n1, n_1n0, n_0n0, n_dI, n_m1lt, q_inb, n_nar, n_nar0, n_nar1, n_bool, Bool.false_eq_true, Bool.true_eq_false, if_true, if_false, ↓reduceIte, Nat.reduceAdd, Nat.reduceMul, Nat.reduceSub, Nat.reduceLT, Nat.reduceLeDiff, Nat.reduceEqDiff, Nat.reduceMod, Nat.reduceDiv, q_R rt1.1, r_pe rt1, Nat.lt_irrefl, show ir_isB (nI 0) = true from rfl, Bool.and_self]
    rw [← e2]
    simp (disch := omega) only [q_ckt, q_lt, q_cI, q_cJ, q_cV, q_cP, q_xI, q_xV, q_xP, q_xJ, g_gk, g_ga, g_gw, g_gp, g_gq, g_P, g_J, q_I_s, q_I_n, q_I_k, nI_add, pk_sub, pk_mul, nI_clamp, n_lt0, n_0lt, n_eq0, n_lt, n_le, n_eq, n_m1, n_m2, n_m9, n_12, n_19, n_10, n_01, n_1n1, n_0n1, n_1n0, n_0n0, n_dI, n_m1lt, q_inb, n_nar, n_nar0, n_nar1, n_bool, Bool.false_eq_true, Bool.true_eq_false, if_true, if_false, ↓reduceIte, Nat.reduceAdd, Nat.reduceMul, Nat.reduceSub, Nat.reduceLT, Nat.reduceLeDiff, Nat.reduceEqDiff, Nat.reduceMod, Nat.reduceDiv, q_R rt2.1, f3, q_R p3]
  · rw [st3.2.1, e2]
    show t1.2 = M.2
    rw [q1.2, e1]
    rfl
  · rcases b3 with ⟨a1, -⟩ | ⟨-, -, a3, a4⟩
    · rw [show (k_pc K vp (k_pp S) (k_jj K S) (k_card S) (k_card S) (k_as K) (fun _ => 0) (false, 0, fun _ => 0)).1 = true from tr] at a1
      exact nomatch a1
    · exact ⟨a3, a4⟩
end PLT
section PLU
variable {L : Nat} {xs : Nat → Int32}
theorem S_plot (a b w : Int32) : q_St L xs (q_Iv L xs) (m_L_plot 200 1 a b w 436) (m_X12_plot 200 412 a b w) := by
  refine q_St_mk (x := m_X11_plot 199 1 a b w) (fun M => E_L_plot 199 1 a b w 436 M) fun M hp hI => ?_
  have hc := c_I_c hp hI.1
  have hr := c_I_r hp hI.1
  generalize M.1 413 = K at hc hr
  have hk := hc.2.2.1
  have hb := k_bds hk
  have hmb := k_mb_lt hk
  by_cases hv : k_rng b (k_n K)
  rotate_left
  · refine Or.inr ⟨1, 1, by omega, by omega, ?_, fun _ => rfl, fun M' s => ⟨nI 0, _, ?_, q_st_4 s.1.1 (k := 4) (v := nI 1) rfl, rfl, q_I_s⟩⟩
    · rw [E_X11_plot 198]
      simp (disch := omega) only [q_ckt, q_lt, q_cI, q_cJ, q_cV, q_cP, q_xI, q_xV, q_xP, q_xJ, g_gk, g_ga, g_gw, g_gp, g_gq, g_P, g_J, q_I_s, q_I_n, q_I_k, nI_add, pk_sub, pk_mul, nI_clamp, n_lt0, n_0lt, n_eq0, n_lt, n_le, n_eq, n_m1, n_m2, n_m9, n_12, n_19, n_10, n_01, n_1n1, n_0n1, n_1n0, n_0n0, n_dI, n_m1lt, q_inb, n_nar, n_nar0, n_nar1, n_bool, Bool.false_eq_true, Bool.true_eq_false, if_true, if_false, ↓reduceIte, Nat.reduceAdd, Nat.reduceMul, Nat.reduceSub, Nat.reduceLT, Nat.reduceLeDiff, Nat.reduceEqDiff, Nat.reduceMod, Nat.reduceDiv, q_W hp, c_np hc, hv]
    · have hr' := q_st_r s hr
      rw [E_X12_plot 199]
      simp (disch := omega) only [q_ckt, q_lt, q_cI, q_cJ, q_cV, q_cP, q_xI, q_xV, q_xP, q_xJ, g_gk, g_ga, g_gw, g_gp, g_gq, g_P, g_J, q_I_s, q_I_n, q_I_k, nI_add, pk_sub, pk_mul, nI_clamp, n_lt0, n_0lt, n_eq0, n_lt, n_le, n_eq, n_m1, n_m2, n_m9, n_12, n_19, n_10, n_01, n_1n1, n_0n1, n_1n0, n_0n0, n_dI, n_m1lt, q_inb, n_nar, n_nar0, n_nar1, n_bool, Bool.false_eq_true, Bool.true_eq_false, if_true, if_false, ↓reduceIte, Nat.reduceAdd, Nat.reduceMul, Nat.reduceSub, Nat.reduceLT, Nat.reduceLeDiff, Nat.reduceEqDiff, Nat.reduceMod, Nat.reduceDiv, q_R hr'.1, r_bf0 hr' hv, L_X12_plot_87]
  obtain ⟨V, hV, rfl⟩ := k_rng_of hv (by omega)
  cases e : k_pl K V with
  | none =>
    refine Or.inr ⟨2, 2, by omega, by omega, ?_, fun _ => rfl, fun M' s => ⟨nI 0, _, ?_, q_st_4 s.1.1 (k := 4) (v := nI 2) rfl, rfl, q_I_s⟩⟩
    · rw [E_X11_plot 198]
      simp (disch := omega) only [q_ckt, q_lt, q_cI, q_cJ, q_cV, q_cP, q_xI, q_xV, q_xP, q_xJ, g_gk, g_ga, g_gw, g_gp, g_gq, g_P, g_J, q_I_s, q_I_n, q_I_k, nI_add, pk_sub, pk_mul, nI_clamp, n_lt0, n_0lt, n_eq0, n_lt, n_le, n_eq, n_m1, n_m2, n_m9, n_12, n_19, n_10, n_01, n_1n1, n_0n1, n_1n0, n_0n0, n_dI, n_m1lt, q_inb, n_nar, n_nar0, n_nar1, n_bool, Bool.false_eq_true, Bool.true_eq_false, if_true, if_false, ↓reduceIte, Nat.reduceAdd, Nat.reduceMul, Nat.reduceSub, Nat.reduceLT, Nat.reduceLeDiff, Nat.reduceEqDiff, Nat.reduceMod, Nat.reduceDiv, q_W hp, c_np hc, hv, c_ns hc hV, e]
    · have hr' := q_st_r s hr
      rw [E_X12_plot 199]
      simp (disch := omega) only [q_ckt, q_lt, q_cI, q_cJ, q_cV, q_cP, q_xI, q_xV, q_xP, q_xJ, g_gk, g_ga, g_gw, g_gp, g_gq, g_P, g_J, q_I_s, q_I_n, q_I_k, nI_add, pk_sub, pk_mul, nI_clamp, n_lt0, n_0lt, n_eq0, n_lt, n_le, n_eq, n_m1, n_m2, n_m9, n_12, n_19, n_10, n_01, n_1n1, n_0n1, n_1n0, n_0n0, n_dI, n_m1lt, q_inb, n_nar, n_nar0, n_nar1, n_bool, Bool.false_eq_true, Bool.true_eq_false, if_true, if_false, ↓reduceIte, Nat.reduceAdd, Nat.reduceMul, Nat.reduceSub, Nat.reduceLT, Nat.reduceLeDiff, Nat.reduceEqDiff, Nat.reduceMod, Nat.reduceDiv, q_R hr'.1, r_bf1 hr' hV, e, L_X12_plot_87]
  | some vp =>
    obtain ⟨hvm, hqv⟩ := k_pl_some e
    have ns := c_ns2 (d := 196) (lo := 1) (hi := 3) (a := a) hc (by decide) (by decide)
    have bad : (∀ M', r_rl M' K → m_X12_plot 200 412 a (nI V) w M' = ir_oI (nI 0) (ir_sI (ir_sI M' 412 4 (nI 0)) 412 4 (nI 3))) → m_X11_plot 199 1 a (nI V) w M = ir_oX 3 (ir_th M) → (∃ v, c_ans (m_X11_plot 199 1 a (nI V) w) M v ∧ ∀ M', q_st 0 M M' → r_ans (m_X12_plot 200 412 a (nI V) w) M' v 0) ∨ (∃ e k, 0 < k ∧ k < 9 ∧ m_X11_plot 199 1 a (nI V) w M = ir_oX e (ir_th M) ∧ (∀ M, (fun e4 M5 => if e4 = 1 then ir_oI (nI 1) M5 else if e4 = 2 then ir_oI (nI 2) M5 else if e4 = 3 then ir_oI (nI 3) M5 else none) e M = ir_oI (nI k) M) ∧ ∀ M', q_st 1 M M' → ∃ b', r_ans (m_X12_plot 200 412 a (nI V) w) M' b' k) := fun hR hC => by
      refine Or.inr ⟨3, 3, by omega, by omega, hC, fun _ => rfl, fun M' s => ?_⟩
      have e2 := hR M' (q_st_r s hr)
      exact ⟨nI 0, _, e2, (q_st_4 s.1.1 (k := 4) rfl).tr (q_st_4 (M := ir_sI M' 412 4 (nI 0)) s.1.1 (k := 4) (v := nI 3) rfl), rfl, q_I_s⟩
    have np : ∀ X, ir_cV (m_X11_needSet 198 1 a (nI 1) (nI 3) M) (fun M6 => if w < (nI 10) then v_X11_plot_45 198 1 a (nI V) w (nI vp) (nI 0) M6 else if (w - (nI 10)) < k_bc a then v_X11_plot_45 198 1 a (nI V) w (nI vp) (nI 1) M6 else v_X11_plot_45 198 1 a (nI V) w (nI vp) (nI 0) M6) = X → m_X11_plot 199 1 a (nI V) w M = X := fun X hX => by
      rw [E_X11_plot 198]
      simp (disch := omega) only [q_ckt, q_lt, q_cI, q_cJ, q_cV, q_cP, q_xI, q_xV, q_xP, q_xJ, g_gk, g_ga, g_gw, g_gp, g_gq, g_P, g_J, q_I_s, q_I_n, q_I_k, nI_add, pk_sub, pk_mul, nI_clamp, n_lt0, n_0lt, n_eq0, n_lt, n_le, n_eq, n_m1, n_m2, n_m9, n_12, n_19, n_10, n_01, n_1n1, n_0n1, n_1n0, n_0n0, n_dI, n_m1lt, q_inb, n_nar, n_nar0, n_nar1, n_bool, Bool.false_eq_true, Bool.true_eq_false, if_true, if_false, ↓reduceIte, Nat.reduceAdd, Nat.reduceMul, Nat.reduceSub, Nat.reduceLT, Nat.reduceLeDiff, Nat.reduceEqDiff, Nat.reduceMod, Nat.reduceDiv, q_W hp, c_np hc, hv, c_ns hc hV, e, c_bc]
      exact hX
    have rstart : ∀ M', r_rl M' K → ∀ X, (if 0 < a then ir_ck (ir_gk (ir_sI M' 412 4 (nI 0)) 412 12) (ir_cI (m_X12_inQueue 199 412 (ir_sI M' 412 4 (nI 0))) (fun r5 M4 => if (a &&& (r5 ^^^ (-1 : Int32))) = 0 then ir_cI (m_X12_size 199 a M4) (fun r7 M6 => if (nI 3) < r7 then v_X12_plot_52 199 412 a (nI V) w (nI 0) M6 else ir_cI (m_X12_has 199 a (nI V) M6) (fun r9 M8 => if r9 = 0 then v_X12_plot_52 199 412 a (nI V) w (nI 1) M8 else v_X12_plot_52 199 412 a (nI V) w (nI 0) M8)) else v_X12_plot_52 199 412 a (nI V) w (nI 0) M4)) else v_X12_plot_52 199 412 a (nI V) w (nI 0) (ir_sI M' 412 4 (nI 0))) = X → m_X12_plot 200 412 a (nI V) w M' = X := fun M' hr' X hX => by
      rw [← hX, E_X12_plot 199]
      simp (disch := omega) only [q_ckt, q_lt, q_cI, q_cJ, q_cV, q_cP, q_xI, q_xV, q_xP, q_xJ, g_gk, g_ga, g_gw, g_gp, g_gq, g_P, g_J, q_I_s, q_I_n, q_I_k, nI_add, pk_sub, pk_mul, nI_clamp, n_lt0, n_0lt, n_eq0, n_lt, n_le, n_eq, n_m1, n_m2, n_m9, n_12, n_19, n_10, n_01, n_1n1, n_0n1, n_1n0, n_0n0, n_dI, n_m1lt, q_inb, n_nar, n_nar0, n_nar1, n_bool, Bool.false_eq_true, Bool.true_eq_false, if_true, if_false, ↓reduceIte, Nat.reduceAdd, Nat.reduceMul, Nat.reduceSub, Nat.reduceLT, Nat.reduceLeDiff, Nat.reduceEqDiff, Nat.reduceMod, Nat.reduceDiv, q_R hr'.1, r_bf1 hr' hV, e]
    have no52 : ∀ M', r_rl M' K → v_X12_plot_52 199 412 a (nI V) w (nI 0) (ir_sI M' 412 4 (nI 0)) = ir_oI (nI 0) (ir_sI (ir_sI M' 412 4 (nI 0)) 412 4 (nI 3)) := fun M' hr' => by
      rw [L_X12_plot_52]
      simp (disch := omega) only [q_ckt, q_lt, q_cI, q_cJ, q_cV, q_cP, q_xI, q_xV, q_xP, q_xJ, g_gk, g_ga, g_gw, g_gp, g_gq, g_P, g_J, q_I_s, q_I_n, q_I_k, nI_add, pk_sub, pk_mul, nI_clamp, n_lt0, n_0lt, n_eq0, n_lt, n_le, n_eq, n_m1, n_m2, n_m9, n_12, n_19, n_10, n_01, n_1n1, n_0n1, n_1n0, n_0n0, n_dI, n_m1lt, q_inb, n_nar, n_nar0, n_nar1, n_bool, Bool.false_eq_true, Bool.true_eq_false, if_true, if_false, ↓reduceIte, Nat.reduceAdd, Nat.reduceMul, Nat.reduceSub, Nat.reduceLT, Nat.reduceLeDiff, Nat.reduceEqDiff, Nat.reduceMod, Nat.reduceDiv, q_R hr'.1, L_X12_plot_87]
    by_cases hset : a &&& (nI (k_mb K) ^^^ (-1 : Int32)) = 0
    rotate_left
    · rw [if_neg hset] at ns
      refine bad (fun M' hr' => rstart M' hr' _ ?_) (np _ ?_)
      · have h4 := r_4 (v := nI 0) hr'
        by_cases h0 : 0 < a
        · simp (disch := omega) only [q_ckt, q_lt, q_cI, q_cJ, q_cV, q_cP, q_xI, q_xV, q_xP, q_xJ, g_gk, g_ga, g_gw, g_gp, g_gq, g_P, g_J, q_I_s, q_I_n, q_I_k, nI_add, pk_sub, pk_mul, nI_clamp, n_lt0, n_0lt, n_eq0, n_lt, n_le, n_eq, n_m1, n_m2, n_m9, n_12, n_19, n_10, n_01, n_1n1, n_0n1, n_1n0, n_0n0, n_dI, n_m1lt, q_inb, n_nar, n_nar0, n_nar1, n_bool, Bool.false_eq_true, Bool.true_eq_false, if_true, if_false, ↓reduceIte, Nat.reduceAdd, Nat.reduceMul, Nat.reduceSub, Nat.reduceLT, Nat.reduceLeDiff, Nat.reduceEqDiff, Nat.reduceMod, Nat.reduceDiv, q_R hr'.1, h0, r_mb h4, hset]
          exact no52 M' hr'
        · simp (disch := omega) only [q_ckt, q_lt, q_cI, q_cJ, q_cV, q_cP, q_xI, q_xV, q_xP, q_xJ, g_gk, g_ga, g_gw, g_gp, g_gq, g_P, g_J, q_I_s, q_I_n, q_I_k, nI_add, pk_sub, pk_mul, nI_clamp, n_lt0, n_0lt, n_eq0, n_lt, n_le, n_eq, n_m1, n_m2, n_m9, n_12, n_19, n_10, n_01, n_1n1, n_0n1, n_1n0, n_0n0, n_dI, n_m1lt, q_inb, n_nar, n_nar0, n_nar1, n_bool, Bool.false_eq_true, Bool.true_eq_false, if_true, if_false, ↓reduceIte, Nat.reduceAdd, Nat.reduceMul, Nat.reduceSub, Nat.reduceLT, Nat.reduceLeDiff, Nat.reduceEqDiff, Nat.reduceMod, Nat.reduceDiv, h0]
          exact no52 M' hr'
      · simp (disch := omega) only [q_ckt, q_lt, q_cI, q_cJ, q_cV, q_cP, q_xI, q_xV, q_xP, q_xJ, g_gk, g_ga, g_gw, g_gp, g_gq, g_P, g_J, q_I_s, q_I_n, q_I_k, nI_add, pk_sub, pk_mul, nI_clamp, n_lt0, n_0lt, n_eq0, n_lt, n_le, n_eq, n_m1, n_m2, n_m9, n_12, n_19, n_10, n_01, n_1n1, n_0n1, n_1n0, n_0n0, n_dI, n_m1lt, q_inb, n_nar, n_nar0, n_nar1, n_bool, Bool.false_eq_true, Bool.true_eq_false, if_true, if_false, ↓reduceIte, Nat.reduceAdd, Nat.reduceMul, Nat.reduceSub, Nat.reduceLT, Nat.reduceLeDiff, Nat.reduceEqDiff, Nat.reduceMod, Nat.reduceDiv, ns]
    obtain ⟨S, hS, rfl, hm⟩ := n_sub hmb hset
    have cl := k_card_le S hS
    rw [if_pos hset, n_bc S hS] at ns
    by_cases h13 : 1 ≤ k_card S ∧ k_card S ≤ 3
    rotate_left
    · refine bad (fun M' hr' => rstart M' hr' _ ?_) (np _ ?_)
      · have h4 := r_4 (v := nI 0) hr'
        by_cases hS0 : 0 < S
        · simp (disch := omega) only [q_ckt, q_lt, q_cI, q_cJ, q_cV, q_cP, q_xI, q_xV, q_xP, q_xJ, g_gk, g_ga, g_gw, g_gp, g_gq, g_P, g_J, q_I_s, q_I_n, q_I_k, nI_add, pk_sub, pk_mul, nI_clamp, n_lt0, n_0lt, n_eq0, n_lt, n_le, n_eq, n_m1, n_m2, n_m9, n_12, n_19, n_10, n_01, n_1n1, n_0n1, n_1n0, n_0n0, n_dI, n_m1lt, q_inb, n_nar, n_nar0, n_nar1, n_bool, Bool.false_eq_true, Bool.true_eq_false, if_true, if_false, ↓reduceIte, Nat.reduceAdd, Nat.reduceMul, Nat.reduceSub, Nat.reduceLT, Nat.reduceLeDiff, Nat.reduceEqDiff, Nat.reduceMod, Nat.reduceDiv, q_R hr'.1, hS0, r_mb h4, n_dif, hm, r_size hS, show 3 < k_card S from Classical.not_not.mp (fun q => h13 ⟨by rcases Nat.eq_zero_or_pos (k_card S) with z | z; exact absurd (cl.2 z) (by omega); exact z, by omega⟩)]
          exact no52 M' hr'
        · simp (disch := omega) only [q_ckt, q_lt, q_cI, q_cJ, q_cV, q_cP, q_xI, q_xV, q_xP, q_xJ, g_gk, g_ga, g_gw, g_gp, g_gq, g_P, g_J, q_I_s, q_I_n, q_I_k, nI_add, pk_sub, pk_mul, nI_clamp, n_lt0, n_0lt, n_eq0, n_lt, n_le, n_eq, n_m1, n_m2, n_m9, n_12, n_19, n_10, n_01, n_1n1, n_0n1, n_1n0, n_0n0, n_dI, n_m1lt, q_inb, n_nar, n_nar0, n_nar1, n_bool, Bool.false_eq_true, Bool.true_eq_false, if_true, if_false, ↓reduceIte, Nat.reduceAdd, Nat.reduceMul, Nat.reduceSub, Nat.reduceLT, Nat.reduceLeDiff, Nat.reduceEqDiff, Nat.reduceMod, Nat.reduceDiv, hS0]
          exact no52 M' hr'
      · have : k_card S < 1 ∨ 3 < k_card S := by omega
        rcases this with q | q
        · simp (disch := omega) only [q_ckt, q_lt, q_cI, q_cJ, q_cV, q_cP, q_xI, q_xV, q_xP, q_xJ, g_gk, g_ga, g_gw, g_gp, g_gq, g_P, g_J, q_I_s, q_I_n, q_I_k, nI_add, pk_sub, pk_mul, nI_clamp, n_lt0, n_0lt, n_eq0, n_lt, n_le, n_eq, n_m1, n_m2, n_m9, n_12, n_19, n_10, n_01, n_1n1, n_0n1, n_1n0, n_0n0, n_dI, n_m1lt, q_inb, n_nar, n_nar0, n_nar1, n_bool, Bool.false_eq_true, Bool.true_eq_false, if_true, if_false, ↓reduceIte, Nat.reduceAdd, Nat.reduceMul, Nat.reduceSub, Nat.reduceLT, Nat.reduceLeDiff, Nat.reduceEqDiff, Nat.reduceMod, Nat.reduceDiv, ns, q]
        · simp (disch := omega) only [q_ckt, q_lt, q_cI, q_cJ, q_cV, q_cP, q_xI, q_xV, q_xP, q_xJ, g_gk, g_ga, g_gw, g_gp, g_gq, g_P, g_J, q_I_s, q_I_n, q_I_k, nI_add, pk_sub, pk_mul, nI_clamp, n_lt0, n_0lt, n_eq0, n_lt, n_le, n_eq, n_m1, n_m2, n_m9, n_12, n_19, n_10, n_01, n_1n1, n_0n1, n_1n0, n_0n0, n_dI, n_m1lt, q_inb, n_nar, n_nar0, n_nar1, n_bool, Bool.false_eq_true, Bool.true_eq_false, if_true, if_false, ↓reduceIte, Nat.reduceAdd, Nat.reduceMul, Nat.reduceSub, Nat.reduceLT, Nat.reduceLeDiff, Nat.reduceEqDiff, Nat.reduceMod, Nat.reduceDiv, ns, show ¬ k_card S < 1 by omega, q]
    have hS0 : 0 < S := by
      rcases Nat.eq_zero_or_pos S with q | q
      · rw [q] at h13
        exact absurd h13.1 (by decide)
      · exact q
    have ns' : m_X11_needSet 198 1 (nI S) (nI 1) (nI 3) M = ir_oV M := by
      rw [ns]
      simp (disch := omega) only [q_ckt, q_lt, q_cI, q_cJ, q_cV, q_cP, q_xI, q_xV, q_xP, q_xJ, g_gk, g_ga, g_gw, g_gp, g_gq, g_P, g_J, q_I_s, q_I_n, q_I_k, nI_add, pk_sub, pk_mul, nI_clamp, n_lt0, n_0lt, n_eq0, n_lt, n_le, n_eq, n_m1, n_m2, n_m9, n_12, n_19, n_10, n_01, n_1n1, n_0n1, n_1n0, n_0n0, n_dI, n_m1lt, q_inb, n_nar, n_nar0, n_nar1, n_bool, Bool.false_eq_true, Bool.true_eq_false, if_true, if_false, ↓reduceIte, Nat.reduceAdd, Nat.reduceMul, Nat.reduceSub, Nat.reduceLT, Nat.reduceLeDiff, Nat.reduceEqDiff, Nat.reduceMod, Nat.reduceDiv, show ¬ k_card S < 1 by omega, show ¬ 3 < k_card S by omega]
    have rr : ∀ M', r_rl M' K → ∀ X, (if S.testBit V = true then v_X12_plot_52 199 412 (nI S) (nI V) w (nI 0) (ir_sI M' 412 4 (nI 0)) else v_X12_plot_52 199 412 (nI S) (nI V) w (nI 1) (ir_sI M' 412 4 (nI 0))) = X → m_X12_plot 200 412 (nI S) (nI V) w M' = X := fun M' hr' X hX => rstart M' hr' X (by
      have h4 := r_4 (v := nI 0) hr'
      have hh := r_has (M := ir_sI M' 412 4 (nI 0)) (d := 198) hS (show V < 8 by omega)
      rw [← hX]
      by_cases q : S.testBit V = true
      · rw [if_pos q] at hh
        simp (disch := omega) only [q_ckt, q_lt, q_cI, q_cJ, q_cV, q_cP, q_xI, q_xV, q_xP, q_xJ, g_gk, g_ga, g_gw, g_gp, g_gq, g_P, g_J, q_I_s, q_I_n, q_I_k, nI_add, pk_sub, pk_mul, nI_clamp, n_lt0, n_0lt, n_eq0, n_lt, n_le, n_eq, n_m1, n_m2, n_m9, n_12, n_19, n_10, n_01, n_1n1, n_0n1, n_1n0, n_0n0, n_dI, n_m1lt, q_inb, n_nar, n_nar0, n_nar1, n_bool, Bool.false_eq_true, Bool.true_eq_false, if_true, if_false, ↓reduceIte, Nat.reduceAdd, Nat.reduceMul, Nat.reduceSub, Nat.reduceLT, Nat.reduceLeDiff, Nat.reduceEqDiff, Nat.reduceMod, Nat.reduceDiv, q_R hr'.1, hS0, r_mb h4, n_dif, hm, r_size hS, show ¬ 3 < k_card S by omega, hh, q]
      · rw [if_neg q] at hh
        simp (disch := omega) only [q_ckt, q_lt, q_cI, q_cJ, q_cV, q_cP, q_xI, q_xV, q_xP, q_xJ, g_gk, g_ga, g_gw, g_gp, g_gq, g_P, g_J, q_I_s, q_I_n, q_I_k, nI_add, pk_sub, pk_mul, nI_clamp, n_lt0, n_0lt, n_eq0, n_lt, n_le, n_eq, n_m1, n_m2, n_m9, n_12, n_19, n_10, n_01, n_1n1, n_0n1, n_1n0, n_0n0, n_dI, n_m1lt, q_inb, n_nar, n_nar0, n_nar1, n_bool, Bool.false_eq_true, Bool.true_eq_false, if_true, if_false, ↓reduceIte, Nat.reduceAdd, Nat.reduceMul, Nat.reduceSub, Nat.reduceLT, Nat.reduceLeDiff, Nat.reduceEqDiff, Nat.reduceMod, Nat.reduceDiv, q_R hr'.1, hS0, r_mb h4, n_dif, hm, r_size hS, show ¬ 3 < k_card S by omega, hh, q])
    by_cases hvS : S.testBit V = true
    · refine bad (fun M' hr' => rr M' hr' _ ?_) (np _ ?_)
      · rw [if_pos hvS]
        exact no52 M' hr'
      · have x45 : ∀ v : Int32, v_X11_plot_45 198 1 (nI S) (nI V) w (nI vp) v M = ir_oX 3 (ir_th M) := fun v => by
          rw [L_X11_plot_45]
          simp (disch := omega) only [q_ckt, q_lt, q_cI, q_cJ, q_cV, q_cP, q_xI, q_xV, q_xP, q_xJ, g_gk, g_ga, g_gw, g_gp, g_gq, g_P, g_J, q_I_s, q_I_n, q_I_k, nI_add, pk_sub, pk_mul, nI_clamp, n_lt0, n_0lt, n_eq0, n_lt, n_le, n_eq, n_m1, n_m2, n_m9, n_12, n_19, n_10, n_01, n_1n1, n_0n1, n_1n0, n_0n0, n_dI, n_m1lt, q_inb, n_nar, n_nar0, n_nar1, n_bool, Bool.false_eq_true, Bool.true_eq_false, if_true, if_false, ↓reduceIte, Nat.reduceAdd, Nat.reduceMul, Nat.reduceSub, Nat.reduceLT, Nat.reduceLeDiff, Nat.reduceEqDiff, Nat.reduceMod, Nat.reduceDiv, n_bit, n_bt, hvS]
        simp (disch := omega) only [q_ckt, q_lt, q_cI, q_cJ, q_cV, q_cP, q_xI, q_xV, q_xP, q_xJ, g_gk, g_ga, g_gw, g_gp, g_gq, g_P, g_J, q_I_s, q_I_n, q_I_k, nI_add, pk_sub, pk_mul, nI_clamp, n_lt0, n_0lt, n_eq0, n_lt, n_le, n_eq, n_m1, n_m2, n_m9, n_12, n_19, n_10, n_01, n_1n1, n_0n1, n_1n0, n_0n0, n_dI, n_m1lt, q_inb, n_nar, n_nar0, n_nar1, n_bool, Bool.false_eq_true, Bool.true_eq_false, if_true, if_false, ↓reduceIte, Nat.reduceAdd, Nat.reduceMul, Nat.reduceSub, Nat.reduceLT, Nat.reduceLeDiff, Nat.reduceEqDiff, Nat.reduceMod, Nat.reduceDiv, ns', x45]
        split
        · rfl
        · split <;> rfl
    have hvS' := Bool.eq_false_iff.mpr hvS
    have good : ∀ (f : Int32), (w = 0 ∨ ¬ f = 0) → v_X11_plot_45 198 1 (nI S) (nI V) w (nI vp) f M = v_X11_plot_75 198 1 (nI S) w (nI vp) f M := fun f hf => by
      rw [L_X11_plot_45]
      simp (disch := omega) only [q_ckt, q_lt, q_cI, q_cJ, q_cV, q_cP, q_xI, q_xV, q_xP, q_xJ, g_gk, g_ga, g_gw, g_gp, g_gq, g_P, g_J, q_I_s, q_I_n, q_I_k, nI_add, pk_sub, pk_mul, nI_clamp, n_lt0, n_0lt, n_eq0, n_lt, n_le, n_eq, n_m1, n_m2, n_m9, n_12, n_19, n_10, n_01, n_1n1, n_0n1, n_1n0, n_0n0, n_dI, n_m1lt, q_inb, n_nar, n_nar0, n_nar1, n_bool, Bool.false_eq_true, Bool.true_eq_false, if_true, if_false, ↓reduceIte, Nat.reduceAdd, Nat.reduceMul, Nat.reduceSub, Nat.reduceLT, Nat.reduceLeDiff, Nat.reduceEqDiff, Nat.reduceMod, Nat.reduceDiv, n_bit, n_bt, hvS']
      by_cases q : w = 0
      · rw [if_pos q]
      · rw [if_neg q, if_neg (hf.resolve_left q)]
    by_cases hw : w = 0 ∨ ∃ i, i < k_card S ∧ w = nI (10 + i)
    · refine Or.inl ⟨if w = 0 then (k_pr K S vp).2.1 else (k_pr K S vp).2.2 (w - nI 10).toNatClampNeg, ?_, fun M' s => ?_⟩
      · obtain ⟨M1, e1, q1, r1, h1⟩ := c_layCh (d := 193) hc
        have c1 := c_rl_eq hc q1 (by decide)
        obtain ⟨t, e2, s2, a2, b2⟩ := c_psr (d := 189) c1 hS hm h13.2 hvm r1 h1
        refine ⟨t, np _ ?_, (q_st_eq hp q1 (by decide)).tr s2⟩
        rcases hw with rfl | ⟨i, hi, rfl⟩
        · have lt0 : (0 : Int32) < nI 10 := by decide +kernel
          simp (disch := omega) only [q_ckt, q_lt, q_cI, q_cJ, q_cV, q_cP, q_xI, q_xV, q_xP, q_xJ, g_gk, g_ga, g_gw, g_gp, g_gq, g_P, g_J, q_I_s, q_I_n, q_I_k, nI_add, pk_sub, pk_mul, nI_clamp, n_lt0, n_0lt, n_eq0, n_lt, n_le, n_eq, n_m1, n_m2, n_m9, n_12, n_19, n_10, n_01, n_1n1, n_0n1, n_1n0, n_0n0, n_dI, n_m1lt, q_inb, n_nar, n_nar0, n_nar1, n_bool, Bool.false_eq_true, Bool.true_eq_false, if_true, if_false, ↓reduceIte, Nat.reduceAdd, Nat.reduceMul, Nat.reduceSub, Nat.reduceLT, Nat.reduceLeDiff, Nat.reduceEqDiff, Nat.reduceMod, Nat.reduceDiv, ns', n_bc S hS, lt0]
          rw [good _ (Or.inl rfl), L_X11_plot_75]
          simp (disch := omega) only [q_ckt, q_lt, q_cI, q_cJ, q_cV, q_cP, q_xI, q_xV, q_xP, q_xJ, g_gk, g_ga, g_gw, g_gp, g_gq, g_P, g_J, q_I_s, q_I_n, q_I_k, nI_add, pk_sub, pk_mul, nI_clamp, n_lt0, n_0lt, n_eq0, n_lt, n_le, n_eq, n_m1, n_m2, n_m9, n_12, n_19, n_10, n_01, n_1n1, n_0n1, n_1n0, n_0n0, n_dI, n_m1lt, q_inb, n_nar, n_nar0, n_nar1, n_bool, Bool.false_eq_true, Bool.true_eq_false, if_true, if_false, ↓reduceIte, Nat.reduceAdd, Nat.reduceMul, Nat.reduceSub, Nat.reduceLT, Nat.reduceLeDiff, Nat.reduceEqDiff, Nat.reduceMod, Nat.reduceDiv, q_W hp, e1, q_W c1.1, q_L c1.1, e2, q_W s2.1.1, q_L s2.1.1, a2]
        · simp (disch := omega) only [q_ckt, q_lt, q_cI, q_cJ, q_cV, q_cP, q_xI, q_xV, q_xP, q_xJ, g_gk, g_ga, g_gw, g_gp, g_gq, g_P, g_J, q_I_s, q_I_n, q_I_k, nI_add, pk_sub, pk_mul, nI_clamp, n_lt0, n_0lt, n_eq0, n_lt, n_le, n_eq, n_m1, n_m2, n_m9, n_12, n_19, n_10, n_01, n_1n1, n_0n1, n_1n0, n_0n0, n_dI, n_m1lt, q_inb, n_nar, n_nar0, n_nar1, n_bool, Bool.false_eq_true, Bool.true_eq_false, if_true, if_false, ↓reduceIte, Nat.reduceAdd, Nat.reduceMul, Nat.reduceSub, Nat.reduceLT, Nat.reduceLeDiff, Nat.reduceEqDiff, Nat.reduceMod, Nat.reduceDiv, ns', n_bc S hS, show ¬ 10 + i < 10 by omega, show 10 + i - 10 = i by omega, hi]
          rw [good _ (Or.inr (by decide +kernel)), L_X11_plot_75]
          simp (disch := omega) only [q_ckt, q_lt, q_cI, q_cJ, q_cV, q_cP, q_xI, q_xV, q_xP, q_xJ, g_gk, g_ga, g_gw, g_gp, g_gq, g_P, g_J, q_I_s, q_I_n, q_I_k, nI_add, pk_sub, pk_mul, nI_clamp, n_lt0, n_0lt, n_eq0, n_lt, n_le, n_eq, n_m1, n_m2, n_m9, n_12, n_19, n_10, n_01, n_1n1, n_0n1, n_1n0, n_0n0, n_dI, n_m1lt, q_inb, n_nar, n_nar0, n_nar1, n_bool, Bool.false_eq_true, Bool.true_eq_false, if_true, if_false, ↓reduceIte, Nat.reduceAdd, Nat.reduceMul, Nat.reduceSub, Nat.reduceLT, Nat.reduceLeDiff, Nat.reduceEqDiff, Nat.reduceMod, Nat.reduceDiv, q_W hp, e1, q_W c1.1, q_L c1.1, e2, q_W s2.1.1, q_L s2.1.1, show 10 + i - 10 = i by omega, b2 i hi, show ¬ 10 + i = 0 by omega]
      · have hr' := q_st_r s hr
        have h4 := r_4 (v := nI 0) hr'
        obtain ⟨t, f1, s1, f2, f3, f4, f5⟩ := r_psr (d := 187) (w := w) h4 hS hm h13.2 e q_I_s
        refine ⟨t, rr M' hr' _ ?_, (q_st_4 hr'.1 rfl).tr s1, by rw [f2]; rfl, f3⟩
        rw [if_neg hvS, L_X12_plot_52]
        rcases hw with rfl | ⟨i, hi, rfl⟩
        · simp (disch := omega) only [q_ckt, q_lt, q_cI, q_cJ, q_cV, q_cP, q_xI, q_xV, q_xP, q_xJ, g_gk, g_ga, g_gw, g_gp, g_gq, g_P, g_J, q_I_s, q_I_n, q_I_k, nI_add, pk_sub, pk_mul, nI_clamp, n_lt0, n_0lt, n_eq0, n_lt, n_le, n_eq, n_m1, n_m2, n_m9, n_12, n_19, n_10, n_01, n_1n1, n_0n1, n_1n0, n_0n0, n_dI, n_m1lt, q_inb, n_nar, n_nar0, n_nar1, n_bool, Bool.false_eq_true, Bool.true_eq_false, if_true, if_false, ↓reduceIte, Nat.reduceAdd, Nat.reduceMul, Nat.reduceSub, Nat.reduceLT, Nat.reduceLeDiff, Nat.reduceEqDiff, Nat.reduceMod, Nat.reduceDiv]
          rw [f1]
          simp (disch := omega) only [q_ckt, q_lt, q_cI, q_cJ, q_cV, q_cP, q_xI, q_xV, q_xP, q_xJ, g_gk, g_ga, g_gw, g_gp, g_gq, g_P, g_J, q_I_s, q_I_n, q_I_k, nI_add, pk_sub, pk_mul, nI_clamp, n_lt0, n_0lt, n_eq0, n_lt, n_le, n_eq, n_m1, n_m2, n_m9, n_12, n_19, n_10, n_01, n_1n1, n_0n1, n_1n0, n_0n0, n_dI, n_m1lt, q_inb, n_nar, n_nar0, n_nar1, n_bool, Bool.false_eq_true, Bool.true_eq_false, if_true, if_false, ↓reduceIte, Nat.reduceAdd, Nat.reduceMul, Nat.reduceSub, Nat.reduceLT, Nat.reduceLeDiff, Nat.reduceEqDiff, Nat.reduceMod, Nat.reduceDiv, f4]
        · have wn : ((10 : Int64).toInt ≤ (nI (10 + i)).toInt64.toInt ∧ (nI (10 + i)).toInt64.toInt ≤ (nI (9 + k_card S)).toInt64.toInt) = True := by
            rw [k_1w (by omega), nI_toInt (by omega)]
            exact eq_true ⟨by omega, by omega⟩
          simp (disch := omega) only [q_ckt, q_lt, q_cI, q_cJ, q_cV, q_cP, q_xI, q_xV, q_xP, q_xJ, g_gk, g_ga, g_gw, g_gp, g_gq, g_P, g_J, q_I_s, q_I_n, q_I_k, nI_add, pk_sub, pk_mul, nI_clamp, n_lt0, n_0lt, n_eq0, n_lt, n_le, n_eq, n_m1, n_m2, n_m9, n_12, n_19, n_10, n_01, n_1n1, n_0n1, n_1n0, n_0n0, n_dI, n_m1lt, q_inb, n_nar, n_nar0, n_nar1, n_bool, Bool.false_eq_true, Bool.true_eq_false, if_true, if_false, ↓reduceIte, Nat.reduceAdd, Nat.reduceMul, Nat.reduceSub, Nat.reduceLT, Nat.reduceLeDiff, Nat.reduceEqDiff, Nat.reduceMod, Nat.reduceDiv, show ¬ 10 + i = 0 by omega, r_size hS, r_within, wn]
          rw [f1]
          simp (disch := omega) only [q_ckt, q_lt, q_cI, q_cJ, q_cV, q_cP, q_xI, q_xV, q_xP, q_xJ, g_gk, g_ga, g_gw, g_gp, g_gq, g_P, g_J, q_I_s, q_I_n, q_I_k, nI_add, pk_sub, pk_mul, nI_clamp, n_lt0, n_0lt, n_eq0, n_lt, n_le, n_eq, n_m1, n_m2, n_m9, n_12, n_19, n_10, n_01, n_1n1, n_0n1, n_1n0, n_0n0, n_dI, n_m1lt, q_inb, n_nar, n_nar0, n_nar1, n_bool, Bool.false_eq_true, Bool.true_eq_false, if_true, if_false, ↓reduceIte, Nat.reduceAdd, Nat.reduceMul, Nat.reduceSub, Nat.reduceLT, Nat.reduceLeDiff, Nat.reduceEqDiff, Nat.reduceMod, Nat.reduceDiv, show ¬ 10 + i = 0 by omega, q_R s1.1.1, show 10 + i - 10 = i by omega, f5 i hi]
    · have w0 : ¬ w = 0 := fun q => hw (Or.inl q)
      have h10 : ¬ (10 ≤ w.toInt ∧ w.toInt < 10 + (k_card S : Int)) := fun q => hw (Or.inr ⟨w.toInt.toNat - 10, by omega, by
        rw [← Int32.toInt_inj, nI_toInt (by omega)]
        omega⟩)
      refine bad (fun M' hr' => rr M' hr' _ ?_) (np _ ?_)
      · have wn : ((10 : Int64).toInt ≤ w.toInt64.toInt ∧ w.toInt64.toInt ≤ (nI (9 + k_card S)).toInt64.toInt) = False := by
          rw [k_1w (by omega)]
          exact eq_false h10
        rw [if_neg hvS, L_X12_plot_52]
        simp (disch := omega) only [q_ckt, q_lt, q_cI, q_cJ, q_cV, q_cP, q_xI, q_xV, q_xP, q_xJ, g_gk, g_ga, g_gw, g_gp, g_gq, g_P, g_J, q_I_s, q_I_n, q_I_k, nI_add, pk_sub, pk_mul, nI_clamp, n_lt0, n_0lt, n_eq0, n_lt, n_le, n_eq, n_m1, n_m2, n_m9, n_12, n_19, n_10, n_01, n_1n1, n_0n1, n_1n0, n_0n0, n_dI, n_m1lt, q_inb, n_nar, n_nar0, n_nar1, n_bool, Bool.false_eq_true, Bool.true_eq_false, if_true, if_false, ↓reduceIte, Nat.reduceAdd, Nat.reduceMul, Nat.reduceSub, Nat.reduceLT, Nat.reduceLeDiff, Nat.reduceEqDiff, Nat.reduceMod, Nat.reduceDiv, w0, r_size hS, r_within, wn, q_R hr'.1, L_X12_plot_87]
      · have x45 : v_X11_plot_45 198 1 (nI S) (nI V) w (nI vp) (nI 0) M = ir_oX 3 (ir_th M) := by
          rw [L_X11_plot_45]
          simp (disch := omega) only [q_ckt, q_lt, q_cI, q_cJ, q_cV, q_cP, q_xI, q_xV, q_xP, q_xJ, g_gk, g_ga, g_gw, g_gp, g_gq, g_P, g_J, q_I_s, q_I_n, q_I_k, nI_add, pk_sub, pk_mul, nI_clamp, n_lt0, n_0lt, n_eq0, n_lt, n_le, n_eq, n_m1, n_m2, n_m9, n_12, n_19, n_10, n_01, n_1n1, n_0n1, n_1n0, n_0n0, n_dI, n_m1lt, q_inb, n_nar, n_nar0, n_nar1, n_bool, Bool.false_eq_true, Bool.true_eq_false, if_true, if_false, ↓reduceIte, Nat.reduceAdd, Nat.reduceMul, Nat.reduceSub, Nat.reduceLT, Nat.reduceLeDiff, Nat.reduceEqDiff, Nat.reduceMod, Nat.reduceDiv, n_bit, n_bt, hvS', w0]
        simp (disch := omega) only [q_ckt, q_lt, q_cI, q_cJ, q_cV, q_cP, q_xI, q_xV, q_xP, q_xJ, g_gk, g_ga, g_gw, g_gp, g_gq, g_P, g_J, q_I_s, q_I_n, q_I_k, nI_add, pk_sub, pk_mul, nI_clamp, n_lt0, n_0lt, n_eq0, n_lt, n_le, n_eq, n_m1, n_m2, n_m9, n_12, n_19, n_10, n_01, n_1n1, n_0n1, n_1n0, n_0n0, n_dI, n_m1lt, q_inb, n_nar, n_nar0, n_nar1, n_bool, Bool.false_eq_true, Bool.true_eq_false, if_true, if_false, ↓reduceIte, Nat.reduceAdd, Nat.reduceMul, Nat.reduceSub, Nat.reduceLT, Nat.reduceLeDiff, Nat.reduceEqDiff, Nat.reduceMod, Nat.reduceDiv, ns', n_bc S hS, x45]
        by_cases q : w < nI 10
        · rw [if_pos q]
        · rw [if_neg q, if_neg ?_]
          intro z
          rw [Int32.lt_iff_toInt_lt, nI_toInt (by decide)] at q
          have up := Int32.toInt_lt w
          rw [Int32.lt_iff_toInt_lt, nI_toInt (by omega), Int32.toInt_sub, nI_toInt (by decide)] at z
          rw [Int.bmod_eq_of_le (by omega) (by omega)] at z
          exact h10 ⟨by omega, by omega⟩
end PLU
