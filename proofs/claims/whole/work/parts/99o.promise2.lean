/-! promises, the reference -/
def k_any (P : Nat → Bool) : Nat → Bool
  | 0 => false
  | x + 1 => k_any P x || P x
theorem k_any_i {P : Nat → Bool} : ∀ n, k_any P n = true ↔ ∃ x, x < n ∧ P x = true
  | 0 => ⟨fun h => (by cases h), fun h => by
    obtain ⟨x, hx, -⟩ := h
    omega⟩
  | n + 1 => by
    unfold k_any
    rw [Bool.or_eq_true, k_any_i n]
    constructor
    · rintro (⟨x, a, b⟩ | h)
      · exact ⟨x, by omega, b⟩
      · exact ⟨n, by omega, h⟩
    · rintro ⟨x, a, b⟩
      by_cases q : x = n
      · exact Or.inr (by rw [← q]; exact b)
      · exact Or.inl ⟨x, by omega, b⟩
theorem k_f1_any {P : Nat → Bool} {n : Nat} : (k_f1 P n 0).isSome = k_any P n := by
  rw [Bool.eq_iff_iff, k_any_i]
  constructor
  · intro h
    cases e : k_f1 P n 0 with
    | none => rw [e] at h; exact nomatch h
    | some g =>
      obtain ⟨a, b, c, -⟩ := k_f1_some e
      exact ⟨g, by omega, a⟩
  · rintro ⟨x, hx, hP⟩
    cases e : k_f1 P n 0 with
    | none =>
      have := k_f1_none e x (by omega) (by omega)
      rw [hP] at this
      exact nomatch this
    | some g => rfl
theorem k_kl_cg {K A B : Nat → Int32} (hA : ∀ j, j < k_m K → A j = B j) {i : Nat} : k_kl K A i = k_kl K B i := by
  unfold k_kl k_li
  refine k_sm_cg _ fun o ho => ?_
  unfold k_lk k_fw
  rw [k_fr_cg hA ho]
theorem k_upd_cg {K A B : Nat → Int32} (hA : ∀ j, j < k_m K → A j = B j) {i : Nat} {v : Int32} : ∀ j, j < k_m K → upd A i v j = upd B i v j := fun j hj => by
  by_cases q : j = i
  · rw [q, k_upd_s, k_upd_s]
  · rw [k_upd_n q, k_upd_n q, hA j hj]
theorem k_bs_cg {K A B : Nat → Int32} (hA : ∀ j, j < k_m K → A j = B j) {i : Nat} : ∀ n, k_bs K A i n = k_bs K B i n
  | 0 => by
    unfold k_bs
    rw [k_kl_cg hA]
  | n + 1 => by
    unfold k_bs
    rw [k_bs_cg hA n, k_kl_cg (k_upd_cg hA)]
section PX
variable {K : Nat → Int32} {S d : Nat} {M : ir_M}
theorem r_p59 (h : r_rl M K) (hS : S < 256) (hm : k_dif S (k_mb K) = 0) {w : Int32} : ∃ M', v_X12_promise_59 (d + 8) 412 (nI S) w (nI 0) M = v_X12_promise_59 (d + 8) 412 (nI S) w (nI (k_n K)) M' ∧ q_eq [418, 419, 420, 426] M M' ∧ ∀ p, p < k_n K → ir_I M' 426 p = k_pm K S (18 + p) := by
  have hk := h.2.1
  have hb := k_bds hk
  have L := q_up (σ := ir_M) (V := fun x t => v_X12_promise_59 (d + 8) 412 (nI S) w (nI x) t) (N := k_n K) (I := fun x t => q_eq [418, 419, 420, 426] M t ∧ ∀ p, p < x → ir_I t 426 p = k_pm K S (18 + p)) (K := fun t => v_X12_promise_59 (d + 8) 412 (nI S) w (nI (k_n K)) t) (by
    rintro x t hx ⟨hq, ht⟩
    have ct := r_rl_eq h hq (by decide)
    have hh := r_has (M := t) (d := d + 7) hS (show x < 8 by omega)
    have done : ∀ u v, q_eq [418, 419, 420] t u → v = k_pm K S (18 + x) → (q_eq [418, 419, 420, 426] M (ir_sI u 426 x v) ∧ ∀ p, p < x + 1 → ir_I (ir_sI u 426 x v) 426 p = k_pm K S (18 + p)) := fun u v qu ev => by
      refine ⟨(hq.tr (qu.sub (by decide))).tr (q_eq.sI (by decide)), fun p hp => ?_⟩
      rw [q_I_u]
      by_cases q : p = x
      · rw [if_pos q, ev, q]
      · rw [if_neg q, q_I_eq qu (by decide)]
        exact ht p (by omega)
    by_cases qs : S.testBit x = true
    · rw [qs] at hh
      obtain ⟨j, ej⟩ := k_set_m hk hm qs
      obtain ⟨hjm, hqj⟩ := k_pl_some ej
      obtain ⟨u, e1, q1⟩ := r_ko (d := d) ct hjm true
      rw [hqj, if_pos rfl, show (1 : Int32) = nI 1 from rfl] at e1
      have cu := r_rl_eq ct q1 (by decide)
      have ev : k_pm K S (18 + x) = match (k_ks K (k_as K) j true (k_g K)).1 with | some g => nI g | none => K (18 + x) := by
        have := k_pm_q (S := S) hk hjm
        rw [hqj, if_pos qs] at this
        exact this
      cases e3 : (k_ks K (k_as K) j true (k_g K)).1 with
      | none =>
        rw [e3] at e1 ev
        refine ⟨_, done u (K (18 + x)) q1 ev.symm, ?_⟩
        rw [L_X12_promise_59]
        simp (disch := omega) only [q_ckt, q_lt, q_cI, q_cJ, q_cV, q_cP, q_xI, q_xV, q_xP, q_xJ, g_gk, g_ga, g_gw, g_gp, g_gq, g_P, g_J, q_I_s, q_I_n, q_I_k, nI_add, pk_sub, pk_mul, nI_clamp, n_lt0, n_0lt, n_eq0, n_lt, n_le, n_eq, n_m1, n_m2, n_m9, n_12, n_19, n_10, n_01, n_1n1, n_0n1, n_1n0, n_0n0, n_dI, n_m1lt, q_inb, n_nar, n_nar0, n_nar1, n_bool, Bool.false_eq_true, Bool.true_eq_false, if_true, if_false, ↓reduceIte, Nat.reduceAdd, Nat.reduceMul, Nat.reduceSub, Nat.reduceLT, Nat.reduceLeDiff, Nat.reduceEqDiff, Nat.reduceMod, Nat.reduceDiv, q_R ct.1, r_pe ct, hx, hh, e1, k_on]
        rw [L_X12_promise_88]
        simp (disch := omega) only [q_ckt, q_lt, q_cI, q_cJ, q_cV, q_cP, q_xI, q_xV, q_xP, q_xJ, g_gk, g_ga, g_gw, g_gp, g_gq, g_P, g_J, q_I_s, q_I_n, q_I_k, nI_add, pk_sub, pk_mul, nI_clamp, n_lt0, n_0lt, n_eq0, n_lt, n_le, n_eq, n_m1, n_m2, n_m9, n_12, n_19, n_10, n_01, n_1n1, n_0n1, n_1n0, n_0n0, n_dI, n_m1lt, q_inb, n_nar, n_nar0, n_nar1, n_bool, Bool.false_eq_true, Bool.true_eq_false, if_true, if_false, ↓reduceIte, Nat.reduceAdd, Nat.reduceMul, Nat.reduceSub, Nat.reduceLT, Nat.reduceLeDiff, Nat.reduceEqDiff, Nat.reduceMod, Nat.reduceDiv, q_R cu.1, cu.2.2]
      | some g =>
        have hg := (k_ks_lt _ e3).1
        rw [e3] at e1 ev
        refine ⟨_, done u (nI g) q1 ev.symm, ?_⟩
        rw [L_X12_promise_59]
        simp (disch := omega) only [q_ckt, q_lt, q_cI, q_cJ, q_cV, q_cP, q_xI, q_xV, q_xP, q_xJ, g_gk, g_ga, g_gw, g_gp, g_gq, g_P, g_J, q_I_s, q_I_n, q_I_k, nI_add, pk_sub, pk_mul, nI_clamp, n_lt0, n_0lt, n_eq0, n_lt, n_le, n_eq, n_m1, n_m2, n_m9, n_12, n_19, n_10, n_01, n_1n1, n_0n1, n_1n0, n_0n0, n_dI, n_m1lt, q_inb, n_nar, n_nar0, n_nar1, n_bool, Bool.false_eq_true, Bool.true_eq_false, if_true, if_false, ↓reduceIte, Nat.reduceAdd, Nat.reduceMul, Nat.reduceSub, Nat.reduceLT, Nat.reduceLeDiff, Nat.reduceEqDiff, Nat.reduceMod, Nat.reduceDiv, q_R ct.1, r_pe ct, hx, hh, e1, k_on]
        rw [L_X12_promise_88]
        simp (disch := omega) only [q_ckt, q_lt, q_cI, q_cJ, q_cV, q_cP, q_xI, q_xV, q_xP, q_xJ, g_gk, g_ga, g_gw, g_gp, g_gq, g_P, g_J, q_I_s, q_I_n, q_I_k, nI_add, pk_sub, pk_mul, nI_clamp, n_lt0, n_0lt, n_eq0, n_lt, n_le, n_eq, n_m1, n_m2, n_m9, n_12, n_19, n_10, n_01, n_1n1, n_0n1, n_1n0, n_0n0, n_dI, n_m1lt, q_inb, n_nar, n_nar0, n_nar1, n_bool, Bool.false_eq_true, Bool.true_eq_false, if_true, if_false, ↓reduceIte, Nat.reduceAdd, Nat.reduceMul, Nat.reduceSub, Nat.reduceLT, Nat.reduceLeDiff, Nat.reduceEqDiff, Nat.reduceMod, Nat.reduceDiv, q_R cu.1]
    · rw [Bool.eq_false_iff.mpr qs] at hh
      have ev : k_pm K S (18 + x) = K (18 + x) := if_neg (fun w => by
        rw [show 18 + x - 18 = x by omega] at w
        exact qs w.2.2)
      refine ⟨_, done t (K (18 + x)) (q_eq.rf _ _) ev.symm, ?_⟩
      rw [L_X12_promise_59]
      simp (disch := omega) only [q_ckt, q_lt, q_cI, q_cJ, q_cV, q_cP, q_xI, q_xV, q_xP, q_xJ, g_gk, g_ga, g_gw, g_gp, g_gq, g_P, g_J, q_I_s, q_I_n, q_I_k, nI_add, pk_sub, pk_mul, nI_clamp, n_lt0, n_0lt, n_eq0, n_lt, n_le, n_eq, n_m1, n_m2, n_m9, n_12, n_19, n_10, n_01, n_1n1, n_0n1, n_1n0, n_0n0, n_dI, n_m1lt, q_inb, n_nar, n_nar0, n_nar1, n_bool, Bool.false_eq_true, Bool.true_eq_false, if_true, if_false, ↓reduceIte, Nat.reduceAdd, Nat.reduceMul, Nat.reduceSub, Nat.reduceLT, Nat.reduceLeDiff, Nat.reduceEqDiff, Nat.reduceMod, Nat.reduceDiv, q_R ct.1, r_pe ct, hx, hh]
      rw [L_X12_promise_88]
      simp (disch := omega) only [q_ckt, q_lt, q_cI, q_cJ, q_cV, q_cP, q_xI, q_xV, q_xP, q_xJ, g_gk, g_ga, g_gw, g_gp, g_gq, g_P, g_J, q_I_s, q_I_n, q_I_k, nI_add, pk_sub, pk_mul, nI_clamp, n_lt0, n_0lt, n_eq0, n_lt, n_le, n_eq, n_m1, n_m2, n_m9, n_12, n_19, n_10, n_01, n_1n1, n_0n1, n_1n0, n_0n0, n_dI, n_m1lt, q_inb, n_nar, n_nar0, n_nar1, n_bool, Bool.false_eq_true, Bool.true_eq_false, if_true, if_false, ↓reduceIte, Nat.reduceAdd, Nat.reduceMul, Nat.reduceSub, Nat.reduceLT, Nat.reduceLeDiff, Nat.reduceEqDiff, Nat.reduceMod, Nat.reduceDiv, q_R ct.1, ct.2.2]) (by
    rintro t ⟨hq, ht⟩
    rfl) (i := 0) (t := M) (by omega) ⟨q_eq.rf _ _, fun p hp => absurd hp (by omega)⟩
  obtain ⟨t, ⟨a, b⟩, ee⟩ := L
  exact ⟨t, ee, a, b⟩
theorem r_p296 {w l4 l5 : Int32} (hk : k_ok K) (hS : S < 256) (hm : k_dif S (k_mb K) = 0) : ∀ (r x : Nat) {M : ir_M}, r_rl M (k_pm K S) → x + r = k_n K → ∃ M', v_X12_promise_296 (d + 8) 412 (nI S) w l4 l5 (-1) (nI x) M = v_X12_promise_340 (d + 8) 412 w l4 l5 (k_on (k_f1 (k_pbk K S) r x)) M' ∧ q_eq [418, 419, 420] M M'
  | 0, x, M, h, hx => by
    have hb := k_bds hk
    have pe := r_pe (d := d + 7) h
    rw [(k_sa_n k_pm_sa).1] at pe
    refine ⟨M, ?_, q_eq.rf _ _⟩
    rw [L_X12_promise_296]
    simp (disch := omega) only [q_ckt, q_lt, q_cI, q_cJ, q_cV, q_cP, q_xI, q_xV, q_xP, q_xJ, g_gk, g_ga, g_gw, g_gp, g_gq, g_P, g_J, q_I_s, q_I_n, q_I_k, nI_add, pk_sub, pk_mul, nI_clamp, n_lt0, n_0lt, n_eq0, n_lt, n_le, n_eq, n_m1, n_m2, n_m9, n_12, n_19, n_10, n_01, n_1n1, n_0n1, n_1n0, n_0n0, n_dI, n_m1lt, q_inb, n_nar, n_nar0, n_nar1, n_bool, Bool.false_eq_true, Bool.true_eq_false, if_true, if_false, ↓reduceIte, Nat.reduceAdd, Nat.reduceMul, Nat.reduceSub, Nat.reduceLT, Nat.reduceLeDiff, Nat.reduceEqDiff, Nat.reduceMod, Nat.reduceDiv, q_R h.1, pe, show ¬ x < k_n K by omega, k_f1, k_on]
  | r + 1, x, M, h, hx => by
    have hb := k_bds hk
    obtain ⟨n1, n2, n3, -, -⟩ := k_sa_n (k_pm_sa (K := K) (S := S))
    have pe := r_pe (d := d + 7) h
    rw [n1] at pe
    have hh := r_has (M := M) (d := d + 7) hS (show x < 8 by omega)
    unfold k_f1
    rw [L_X12_promise_296]
    by_cases qs : S.testBit x = true
    · rw [qs] at hh
      obtain ⟨j, ej⟩ := k_set_m hk hm qs
      obtain ⟨hjm, hqj⟩ := k_pl_some ej
      obtain ⟨M1, e1, q1⟩ := r_bfr (d := d) h (i := j) (by omega)
      rw [k_sa_q k_pm_sa (by omega), hqj, k_bs_sa k_pm_sa hk hjm, n2, k_bs_cg (fun z hz => k_pm_as hk hz)] at e1
      have r1 := r_rl_eq h q1 (by decide)
      cases e3 : (k_bs K (k_pA K S) j (k_g K)).1 with
      | none =>
        rw [e3] at e1
        obtain ⟨M2, e2, q2⟩ := r_p296 hk hS hm r (x + 1) r1 (by omega)
        have eb : k_pbk K S x = false := by unfold k_pbk; rw [ej]; dsimp only; rw [e3]; exact Bool.and_false _
        refine ⟨M2, ?_, q1.tr q2⟩
        simp (disch := omega) only [q_ckt, q_lt, q_cI, q_cJ, q_cV, q_cP, q_xI, q_xV, q_xP, q_xJ, g_gk, g_ga, g_gw, g_gp, g_gq, g_P, g_J, q_I_s, q_I_n, q_I_k, nI_add, pk_sub, pk_mul, nI_clamp, n_lt0, n_0lt, n_eq0, n_lt, n_le, n_eq, n_m1, n_m2, n_m9, n_12, n_19, n_10, n_01, n_1n1, n_0n1, n_1n0, n_0n0, n_dI, n_m1lt, q_inb, n_nar, n_nar0, n_nar1, n_bool, Bool.false_eq_true, Bool.true_eq_false, if_true, if_false, ↓reduceIte, Nat.reduceAdd, Nat.reduceMul, Nat.reduceSub, Nat.reduceLT, Nat.reduceLeDiff, Nat.reduceEqDiff, Nat.reduceMod, Nat.reduceDiv, q_R h.1, pe, show x < k_n K by omega, hh, e1, k_on, eb]
        exact e2
      | some g =>
        have hg := (k_bs_lt _ e3).1
        rw [e3] at e1
        have eb : k_pbk K S x = true := by unfold k_pbk; rw [ej, qs]; dsimp only; rw [e3]; rfl
        have pe1 := r_pe (d := d + 7) r1
        rw [n1] at pe1
        refine ⟨M1, ?_, q1⟩
        simp (disch := omega) only [q_ckt, q_lt, q_cI, q_cJ, q_cV, q_cP, q_xI, q_xV, q_xP, q_xJ, g_gk, g_ga, g_gw, g_gp, g_gq, g_P, g_J, q_I_s, q_I_n, q_I_k, nI_add, pk_sub, pk_mul, nI_clamp, n_lt0, n_0lt, n_eq0, n_lt, n_le, n_eq, n_m1, n_m2, n_m9, n_12, n_19, n_10, n_01, n_1n1, n_0n1, n_1n0, n_0n0, n_dI, n_m1lt, q_inb, n_nar, n_nar0, n_nar1, n_bool, Bool.false_eq_true, Bool.true_eq_false, if_true, if_false, ↓reduceIte, Nat.reduceAdd, Nat.reduceMul, Nat.reduceSub, Nat.reduceLT, Nat.reduceLeDiff, Nat.reduceEqDiff, Nat.reduceMod, Nat.reduceDiv, q_R h.1, pe, show x < k_n K by omega, hh, e1, k_on, eb]
        rw [L_X12_promise_296]
        simp (disch := omega) only [q_ckt, q_lt, q_cI, q_cJ, q_cV, q_cP, q_xI, q_xV, q_xP, q_xJ, g_gk, g_ga, g_gw, g_gp, g_gq, g_P, g_J, q_I_s, q_I_n, q_I_k, nI_add, pk_sub, pk_mul, nI_clamp, n_lt0, n_0lt, n_eq0, n_lt, n_le, n_eq, n_m1, n_m2, n_m9, n_12, n_19, n_10, n_01, n_1n1, n_0n1, n_1n0, n_0n0, n_dI, n_m1lt, q_inb, n_nar, n_nar0, n_nar1, n_bool, Bool.false_eq_true, Bool.true_eq_false, if_true, if_false, ↓reduceIte, Nat.reduceAdd, Nat.reduceMul, Nat.reduceSub, Nat.reduceLT, Nat.reduceLeDiff, Nat.reduceEqDiff, Nat.reduceMod, Nat.reduceDiv, q_R r1.1, pe1]
        split <;> rfl
    · rw [Bool.eq_false_iff.mpr qs] at hh
      obtain ⟨M2, e2, q2⟩ := r_p296 hk hS hm r (x + 1) h (by omega)
      have eb : k_pbk K S x = false := by unfold k_pbk; rw [Bool.eq_false_iff.mpr qs]; rfl
      refine ⟨M2, ?_, q2⟩
      simp (disch := omega) only [q_ckt, q_lt, q_cI, q_cJ, q_cV, q_cP, q_xI, q_xV, q_xP, q_xJ, g_gk, g_ga, g_gw, g_gp, g_gq, g_P, g_J, q_I_s, q_I_n, q_I_k, nI_add, pk_sub, pk_mul, nI_clamp, n_lt0, n_0lt, n_eq0, n_lt, n_le, n_eq, n_m1, n_m2, n_m9, n_12, n_19, n_10, n_01, n_1n1, n_0n1, n_1n0, n_0n0, n_dI, n_m1lt, q_inb, n_nar, n_nar0, n_nar1, n_bool, Bool.false_eq_true, Bool.true_eq_false, if_true, if_false, ↓reduceIte, Nat.reduceAdd, Nat.reduceMul, Nat.reduceSub, Nat.reduceLT, Nat.reduceLeDiff, Nat.reduceEqDiff, Nat.reduceMod, Nat.reduceDiv, q_R h.1, pe, show x < k_n K by omega, hh, eb]
      exact e2
theorem r_prm (h : r_rl M K) (hS : S < 256) (hm : k_dif S (k_mb K) = 0) {y : Nat} (hy : y < 3) : ∃ M', v_X12_promise_59 (d + 8) 412 (nI S) (nI y) (nI 0) M = ir_oI (if y = 0 then (if k_any (k_ph K S) (k_m K) = true then nI 0 else nI 1) else if y = 1 then k_pgn K S (k_m K) else k_on (k_f1 (k_pbk K S) (k_n K) 0)) M' ∧ q_eq [421, 418, 419, 420, 426, 427] M M' := by
  have hk := h.2.1
  have hb := k_bds hk
  obtain ⟨n1, n2, n3, -, -⟩ := k_sa_n (k_pm_sa (K := K) (S := S))
  have okp := k_pm_ok (S := S) hk
  obtain ⟨M1, e1, q1, a1⟩ := r_p59 (d := d) (w := nI y) h hS hm
  have r1 := r_rl_eq h q1 (by decide)
  obtain ⟨M2, e2, q2, b2, f2⟩ := r_laysToday (d := d + 2) r1
  have r2 := r_rl_eq r1 q2 (by decide)
  -- what fell then
  have L1 := q_up (σ := ir_M) (V := fun x t => v_X12_promise_131 (d + 8) 412 (nI S) (nI y) (nI x) t) (N := k_m K) (I := fun x t => q_eq [427] M2 t ∧ ∀ j, j < x → ir_I t 427 j = k_fw K (k_td K) j) (K := fun t => v_X12_promise_131 (d + 8) 412 (nI S) (nI y) (nI (k_m K)) t) (by
    rintro x t hx ⟨hq, ht⟩
    have ct := r_rl_eq r2 hq (by decide)
    have fe := r_fellTo (d := d + 6) (Fl := k_td K) ct hx (by rw [q_I_eq hq (by decide)]; exact f2 x hx) (k_td_gd hk hx)
    refine ⟨ir_sI t 427 x (k_fw K (k_td K) x), ⟨hq.tr (q_eq.sI (by decide)), fun j hj => ?_⟩, ?_⟩
    · rw [q_I_u]
      by_cases q : j = x
      · rw [if_pos q, q]
      · rw [if_neg q]
        exact ht j (by omega)
    · rw [L_X12_promise_131]
      simp (disch := omega) only [q_ckt, q_lt, q_cI, q_cJ, q_cV, q_cP, q_xI, q_xV, q_xP, q_xJ, g_gk, g_ga, g_gw, g_gp, g_gq, g_P, g_J, q_I_s, q_I_n, q_I_k, nI_add, pk_sub, pk_mul, nI_clamp, n_lt0, n_0lt, n_eq0, n_lt, n_le, n_eq, n_m1, n_m2, n_m9, n_12, n_19, n_10, n_01, n_1n1, n_0n1, n_1n0, n_0n0, n_dI, n_m1lt, q_inb, n_nar, n_nar0, n_nar1, n_bool, Bool.false_eq_true, Bool.true_eq_false, if_true, if_false, ↓reduceIte, Nat.reduceAdd, Nat.reduceMul, Nat.reduceSub, Nat.reduceLT, Nat.reduceLeDiff, Nat.reduceEqDiff, Nat.reduceMod, Nat.reduceDiv, q_R ct.1, r_qd ct, hx, fe]) (by
    rintro t ⟨hq, ht⟩
    rfl) (i := 0) (t := M2) (by omega) ⟨q_eq.rf _ _, fun j hj => absurd hj (by omega)⟩
  obtain ⟨M3, ⟨q3, a3⟩, e3⟩ := L1
  have r3 := r_rl_eq r2 q3 (by decide)
  obtain ⟨M4, e4, q4, a4⟩ := r_aside (d := d + 7) r3.1 (lv := 0) (by decide)
  have r4 := r_rl_eq r3 q4 (by decide)
  -- they ask as promised
  have pr4 : ∀ p, p < k_n K → ir_I M4 426 p = k_pm K S (18 + p) := fun p hp => by rw [q_I_eq q4 (by decide), q_I_eq q3 (by decide), q_I_eq q2 (by decide)]; exact a1 p hp
  have L2 := q_up (σ := ir_M) (V := fun x t => v_X12_promise_167 (d + 8) 412 (nI S) (nI y) (nI x) t) (N := k_n K) (I := fun x t => q_eq [413] M4 t ∧ ∀ k, ir_I t 413 k = if 18 ≤ k ∧ k < 18 + x then k_pm K S k else K k) (K := fun t => v_X12_promise_167 (d + 8) 412 (nI S) (nI y) (nI (k_n K)) t) (by
    rintro x t hx ⟨hq, ht⟩
    have hpt := q_PI_eq hq r4.1
    have pe : m_X12_people (d + 8) 412 t = ir_oI (nI (k_n K)) t := by
      rw [E_X12_people]
      simp (disch := omega) only [q_ckt, q_lt, q_cI, q_cJ, q_cV, q_cP, q_xI, q_xV, q_xP, q_xJ, g_gk, g_ga, g_gw, g_gp, g_gq, g_P, g_J, q_I_s, q_I_n, q_I_k, nI_add, pk_sub, pk_mul, nI_clamp, n_lt0, n_0lt, n_eq0, n_lt, n_le, n_eq, n_m1, n_m2, n_m9, n_12, n_19, n_10, n_01, n_1n1, n_0n1, n_1n0, n_0n0, n_dI, n_m1lt, q_inb, n_nar, n_nar0, n_nar1, n_bool, Bool.false_eq_true, Bool.true_eq_false, if_true, if_false, ↓reduceIte, Nat.reduceAdd, Nat.reduceMul, Nat.reduceSub, Nat.reduceLT, Nat.reduceLeDiff, Nat.reduceEqDiff, Nat.reduceMod, Nat.reduceDiv, q_R hpt, show ir_I t 413 2 = nI (k_n K) by rw [ht, if_neg (by omega)]; exact (k_use hk).2.1]
    have px : ir_I t 426 x = k_pm K S (18 + x) := by rw [q_I_eq hq (by decide)]; exact pr4 x hx
    refine ⟨ir_sI t 413 (18 + x) (k_pm K S (18 + x)), ⟨hq.tr (q_eq.sI (by decide)), fun k => ?_⟩, ?_⟩
    · rw [q_I_u, ht]
      by_cases q : k = 18 + x
      · rw [if_pos q, if_pos (by omega), q]
      · rw [if_neg q]
        by_cases q2 : 18 ≤ k ∧ k < 18 + x
        · rw [if_pos q2, if_pos (by omega)]
        · rw [if_neg q2, if_neg (by omega)]
    · rw [L_X12_promise_167]
      simp (disch := omega) only [q_ckt, q_lt, q_cI, q_cJ, q_cV, q_cP, q_xI, q_xV, q_xP, q_xJ, g_gk, g_ga, g_gw, g_gp, g_gq, g_P, g_J, q_I_s, q_I_n, q_I_k, nI_add, pk_sub, pk_mul, nI_clamp, n_lt0, n_0lt, n_eq0, n_lt, n_le, n_eq, n_m1, n_m2, n_m9, n_12, n_19, n_10, n_01, n_1n1, n_0n1, n_1n0, n_0n0, n_dI, n_m1lt, q_inb, n_nar, n_nar0, n_nar1, n_bool, Bool.false_eq_true, Bool.true_eq_false, if_true, if_false, ↓reduceIte, Nat.reduceAdd, Nat.reduceMul, Nat.reduceSub, Nat.reduceLT, Nat.reduceLeDiff, Nat.reduceEqDiff, Nat.reduceMod, Nat.reduceDiv, q_R hpt, pe, hx, px]) (by
    rintro t ⟨hq, ht⟩
    rfl) (i := 0) (t := M4) (by omega) ⟨q_eq.rf _ _, fun k => by rw [if_neg (by omega)]; exact r4.2.2 k⟩
  obtain ⟨M5, ⟨q5, a5⟩, e5⟩ := L2
  have r5 : r_rl M5 (k_pm K S) := by
    refine ⟨q_PI_eq q5 r4.1, okp, fun k => ?_⟩
    rw [a5]
    by_cases q : 18 ≤ k ∧ k < 18 + k_n K
    · rw [if_pos q]
    · rw [if_neg q]
      unfold k_pm
      by_cases q2 : 18 ≤ k ∧ k < 26 ∧ S.testBit (k - 18) = true
      · rw [if_pos q2]
        cases e : k_pl K (k - 18) with
        | none => rfl
        | some j =>
          have := k_qn hk (k_pl_some e).1
          rw [(k_pl_some e).2] at this
          omega
      · rw [if_neg q2]
  obtain ⟨M6, e6, q6, b6, f6⟩ := r_laysToday (d := d + 2) r5
  have r6 := r_rl_eq r5 q6 (by decide)
  have ft6 : ∀ j, j < k_m K → ir_I M6 427 j = k_fw K (k_td K) j := fun j hj => by rw [q_I_eq q6 (by decide), q_I_eq q5 (by decide), q_I_eq q4 (by decide)]; exact a3 j hj
  have fw6 : ∀ j, j < k_m K → k_fw (k_pm K S) (k_td (k_pm K S)) j = k_fw K (k_fr K (k_pA K S)) j := fun j hj => by
    rw [k_sa_fw k_pm_sa (by omega)]
    unfold k_fw
    rw [k_td_fr k_pm_sa, k_fr_cg (fun z hz => k_pm_as hk hz) hj]
  -- holds, more
  have L3 := q_up (σ := ir_M) (V := fun x t => v_X12_promise_212 (d + 8) 412 (nI S) (nI y) (if k_any (k_ph K S) x = true then nI 0 else nI 1) (k_pgn K S x) (nI x) t) (N := k_m K) (I := fun _ t => t = M6) (K := fun t => v_X12_promise_296 (d + 8) 412 (nI S) (nI y) (if k_any (k_ph K S) (k_m K) = true then nI 0 else nI 1) (k_pgn K S (k_m K)) (-1) (nI 0) t) (by
    rintro x t hx rfl
    refine ⟨t, rfl, ?_⟩
    have qd := r_qd (d := d + 7) r6
    rw [n3] at qd
    have wh := r_wh (d := d + 7) r6 (i := x) (by omega)
    have hqx := k_qn hk hx
    rw [k_sa_q k_pm_sa (by omega)] at wh
    have hh := r_has (M := t) (d := d + 7) hS (show k_q K x < 8 by omega)
    have fe := r_fellTo (d := d + 6) r6 (i := x) (by omega) (f6 x (by omega)) (k_td_gd okp (by omega))
    rw [fw6 x hx] at fe
    have tx := ft6 x hx
    rw [show k_pgn K S (x + 1) = if S.testBit (k_q K x) = true then k_pgn K S x + (k_fw K (k_fr K (k_pA K S)) x - k_fw K (k_td K) x) else k_pgn K S x from rfl, show k_any (k_ph K S) (x + 1) = (k_any (k_ph K S) x || k_ph K S x) from rfl, L_X12_promise_212]
    unfold k_ph
    by_cases qs : S.testBit (k_q K x) = true
    · rw [qs] at hh ⊢
      rw [Bool.true_and]
      cases ea : k_any (k_ph K S) x
      · rw [show k_any (fun j => S.testBit (k_q K j) && decide (k_fw K (k_fr K (k_pA K S)) j < k_fw K (k_td K) j)) x = k_any (k_ph K S) x from rfl, ea]
        by_cases qc : k_fw K (k_fr K (k_pA K S)) x < k_fw K (k_td K) x
        · rw [decide_eq_true qc]
          simp (disch := omega) only [q_ckt, q_lt, q_cI, q_cJ, q_cV, q_cP, q_xI, q_xV, q_xP, q_xJ, g_gk, g_ga, g_gw, g_gp, g_gq, g_P, g_J, q_I_s, q_I_n, q_I_k, nI_add, pk_sub, pk_mul, nI_clamp, n_lt0, n_0lt, n_eq0, n_lt, n_le, n_eq, n_m1, n_m2, n_m9, n_12, n_19, n_10, n_01, n_1n1, n_0n1, n_1n0, n_0n0, n_dI, n_m1lt, q_inb, n_nar, n_nar0, n_nar1, n_bool, Bool.false_eq_true, Bool.true_eq_false, if_true, if_false, ↓reduceIte, Nat.reduceAdd, Nat.reduceMul, Nat.reduceSub, Nat.reduceLT, Nat.reduceLeDiff, Nat.reduceEqDiff, Nat.reduceMod, Nat.reduceDiv, q_R r6.1, qd, hx, wh, hh, fe, tx, qc, L_X12_promise_263, Bool.false_or]
        · rw [decide_eq_false qc]
          simp (disch := omega) only [q_ckt, q_lt, q_cI, q_cJ, q_cV, q_cP, q_xI, q_xV, q_xP, q_xJ, g_gk, g_ga, g_gw, g_gp, g_gq, g_P, g_J, q_I_s, q_I_n, q_I_k, nI_add, pk_sub, pk_mul, nI_clamp, n_lt0, n_0lt, n_eq0, n_lt, n_le, n_eq, n_m1, n_m2, n_m9, n_12, n_19, n_10, n_01, n_1n1, n_0n1, n_1n0, n_0n0, n_dI, n_m1lt, q_inb, n_nar, n_nar0, n_nar1, n_bool, Bool.false_eq_true, Bool.true_eq_false, if_true, if_false, ↓reduceIte, Nat.reduceAdd, Nat.reduceMul, Nat.reduceSub, Nat.reduceLT, Nat.reduceLeDiff, Nat.reduceEqDiff, Nat.reduceMod, Nat.reduceDiv, q_R r6.1, qd, hx, wh, hh, fe, tx, qc, L_X12_promise_263, Bool.false_or]
      · rw [show k_any (fun j => S.testBit (k_q K j) && decide (k_fw K (k_fr K (k_pA K S)) j < k_fw K (k_td K) j)) x = k_any (k_ph K S) x from rfl, ea]
        simp (disch := omega) only [q_ckt, q_lt, q_cI, q_cJ, q_cV, q_cP, q_xI, q_xV, q_xP, q_xJ, g_gk, g_ga, g_gw, g_gp, g_gq, g_P, g_J, q_I_s, q_I_n, q_I_k, nI_add, pk_sub, pk_mul, nI_clamp, n_lt0, n_0lt, n_eq0, n_lt, n_le, n_eq, n_m1, n_m2, n_m9, n_12, n_19, n_10, n_01, n_1n1, n_0n1, n_1n0, n_0n0, n_dI, n_m1lt, q_inb, n_nar, n_nar0, n_nar1, n_bool, Bool.false_eq_true, Bool.true_eq_false, if_true, if_false, ↓reduceIte, Nat.reduceAdd, Nat.reduceMul, Nat.reduceSub, Nat.reduceLT, Nat.reduceLeDiff, Nat.reduceEqDiff, Nat.reduceMod, Nat.reduceDiv, q_R r6.1, qd, hx, wh, hh, fe, tx, L_X12_promise_263, Bool.true_or]
    · rw [Bool.eq_false_iff.mpr qs] at hh ⊢
      simp (disch := omega) only [q_ckt, q_lt, q_cI, q_cJ, q_cV, q_cP, q_xI, q_xV, q_xP, q_xJ, g_gk, g_ga, g_gw, g_gp, g_gq, g_P, g_J, q_I_s, q_I_n, q_I_k, nI_add, pk_sub, pk_mul, nI_clamp, n_lt0, n_0lt, n_eq0, n_lt, n_le, n_eq, n_m1, n_m2, n_m9, n_12, n_19, n_10, n_01, n_1n1, n_0n1, n_1n0, n_0n0, n_dI, n_m1lt, q_inb, n_nar, n_nar0, n_nar1, n_bool, Bool.false_eq_true, Bool.true_eq_false, if_true, if_false, ↓reduceIte, Nat.reduceAdd, Nat.reduceMul, Nat.reduceSub, Nat.reduceLT, Nat.reduceLeDiff, Nat.reduceEqDiff, Nat.reduceMod, Nat.reduceDiv, q_R r6.1, qd, hx, wh, hh, Bool.false_and, Bool.or_false]) (by
    rintro t rfl
    have qd := r_qd (d := d + 7) r6
    rw [n3] at qd
    rw [L_X12_promise_212]
    simp (disch := omega) only [q_ckt, q_lt, q_cI, q_cJ, q_cV, q_cP, q_xI, q_xV, q_xP, q_xJ, g_gk, g_ga, g_gw, g_gp, g_gq, g_P, g_J, q_I_s, q_I_n, q_I_k, nI_add, pk_sub, pk_mul, nI_clamp, n_lt0, n_0lt, n_eq0, n_lt, n_le, n_eq, n_m1, n_m2, n_m9, n_12, n_19, n_10, n_01, n_1n1, n_0n1, n_1n0, n_0n0, n_dI, n_m1lt, q_inb, n_nar, n_nar0, n_nar1, n_bool, Bool.false_eq_true, Bool.true_eq_false, if_true, if_false, ↓reduceIte, Nat.reduceAdd, Nat.reduceMul, Nat.reduceSub, Nat.reduceLT, Nat.reduceLeDiff, Nat.reduceEqDiff, Nat.reduceMod, Nat.reduceDiv, q_R r6.1, qd, Nat.lt_irrefl]) (i := 0) (t := M6) (by omega) rfl
  obtain ⟨t6, rfl, e7⟩ := L3
  obtain ⟨M8, e8, q8⟩ := r_p296 (d := d) (w := nI y) (l4 := if k_any (k_ph K S) (k_m K) = true then nI 0 else nI 1) (l5 := k_pgn K S (k_m K)) hk hS hm (k_n K) 0 r6 (by omega)
  have r8 := r_rl_eq r6 q8 (by decide)
  have q48 : q_eq [413, 418, 419, 420] M4 M8 := ((q5.sub (by decide)).tr (q6.sub (by decide))).tr (q8.sub (by decide))
  obtain ⟨M9, e9, q9, -⟩ := r_ab (d := d + 7) r3 (by decide) q4 a4 q48 (by decide) (fun k hk' => by rw [r8.2.2]; exact k_pm_sa k (by omega))
  refine ⟨M9, ?_, ((q1.sub (by decide)).tr (q2.sub (by decide))).tr ((q3.sub (by decide)).tr (q9.sub (by decide)))⟩
  rw [e1, L_X12_promise_59]
  simp (disch := omega) only [q_ckt, q_lt, q_cI, q_cJ, q_cV, q_cP, q_xI, q_xV, q_xP, q_xJ, g_gk, g_ga, g_gw, g_gp, g_gq, g_P, g_J, q_I_s, q_I_n, q_I_k, nI_add, pk_sub, pk_mul, nI_clamp, n_lt0, n_0lt, n_eq0, n_lt, n_le, n_eq, n_m1, n_m2, n_m9, n_12, n_19, n_10, n_01, n_1n1, n_0n1, n_1n0, n_0n0, n_dI, n_m1lt, q_inb, n_nar, n_nar0, n_nar1, n_bool, Bool.false_eq_true, Bool.true_eq_false, if_true, if_false, ↓reduceIte, Nat.reduceAdd, Nat.reduceMul, Nat.reduceSub, Nat.reduceLT, Nat.reduceLeDiff, Nat.reduceEqDiff, Nat.reduceMod, Nat.reduceDiv, q_R r1.1, r_pe r1, Nat.lt_irrefl, e2]
  rw [e3, L_X12_promise_131]
  simp (disch := omega) only [q_ckt, q_lt, q_cI, q_cJ, q_cV, q_cP, q_xI, q_xV, q_xP, q_xJ, g_gk, g_ga, g_gw, g_gp, g_gq, g_P, g_J, q_I_s, q_I_n, q_I_k, nI_add, pk_sub, pk_mul, nI_clamp, n_lt0, n_0lt, n_eq0, n_lt, n_le, n_eq, n_m1, n_m2, n_m9, n_12, n_19, n_10, n_01, n_1n1, n_0n1, n_1n0, n_0n0, n_dI, n_m1lt, q_inb, n_nar, n_nar0, n_nar1, n_bool, Bool.false_eq_true, Bool.true_eq_false, if_true, if_false, ↓reduceIte, Nat.reduceAdd, Nat.reduceMul, Nat.reduceSub, Nat.reduceLT, Nat.reduceLeDiff, Nat.reduceEqDiff, Nat.reduceMod, Nat.reduceDiv, q_R r3.1, r_qd r3, Nat.lt_irrefl, e4]
  have pe5 := r_pe (d := d + 7) r5
  rw [n1] at pe5
  rw [e5, L_X12_promise_167]
  simp (disch := omega) only [q_ckt, q_lt, q_cI, q_cJ, q_cV, q_cP, q_xI, q_xV, q_xP, q_xJ, g_gk, g_ga, g_gw, g_gp, g_gq, g_P, g_J, q_I_s, q_I_n, q_I_k, nI_add, pk_sub, pk_mul, nI_clamp, n_lt0, n_0lt, n_eq0, n_lt, n_le, n_eq, n_m1, n_m2, n_m9, n_12, n_19, n_10, n_01, n_1n1, n_0n1, n_1n0, n_0n0, n_dI, n_m1lt, q_inb, n_nar, n_nar0, n_nar1, n_bool, Bool.false_eq_true, Bool.true_eq_false, if_true, if_false, ↓reduceIte, Nat.reduceAdd, Nat.reduceMul, Nat.reduceSub, Nat.reduceLT, Nat.reduceLeDiff, Nat.reduceEqDiff, Nat.reduceMod, Nat.reduceDiv, q_R r5.1, pe5, Nat.lt_irrefl, e6]
  refine e7.trans ?_
  rw [e8, L_X12_promise_340]
  by_cases y0 : y = 0
  · cases ea : k_any (k_ph K S) (k_m K)
    · simp (disch := omega) only [q_ckt, q_lt, q_cI, q_cJ, q_cV, q_cP, q_xI, q_xV, q_xP, q_xJ, g_gk, g_ga, g_gw, g_gp, g_gq, g_P, g_J, q_I_s, q_I_n, q_I_k, nI_add, pk_sub, pk_mul, nI_clamp, n_lt0, n_0lt, n_eq0, n_lt, n_le, n_eq, n_m1, n_m2, n_m9, n_12, n_19, n_10, n_01, n_1n1, n_0n1, n_1n0, n_0n0, n_dI, n_m1lt, q_inb, n_nar, n_nar0, n_nar1, n_bool, Bool.false_eq_true, Bool.true_eq_false, if_true, if_false, ↓reduceIte, Nat.reduceAdd, Nat.reduceMul, Nat.reduceSub, Nat.reduceLT, Nat.reduceLeDiff, Nat.reduceEqDiff, Nat.reduceMod, Nat.reduceDiv, q_R r8.1, e9, y0]
    · simp (disch := omega) only [q_ckt, q_lt, q_cI, q_cJ, q_cV, q_cP, q_xI, q_xV, q_xP, q_xJ, g_gk, g_ga, g_gw, g_gp, g_gq, g_P, g_J, q_I_s, q_I_n, q_I_k, nI_add, pk_sub, pk_mul, nI_clamp, n_lt0, n_0lt, n_eq0, n_lt, n_le, n_eq, n_m1, n_m2, n_m9, n_12, n_19, n_10, n_01, n_1n1, n_0n1, n_1n0, n_0n0, n_dI, n_m1lt, q_inb, n_nar, n_nar0, n_nar1, n_bool, Bool.false_eq_true, Bool.true_eq_false, if_true, if_false, ↓reduceIte, Nat.reduceAdd, Nat.reduceMul, Nat.reduceSub, Nat.reduceLT, Nat.reduceLeDiff, Nat.reduceEqDiff, Nat.reduceMod, Nat.reduceDiv, q_R r8.1, e9, y0]
  · by_cases y1 : y = 1
    · simp (disch := omega) only [q_ckt, q_lt, q_cI, q_cJ, q_cV, q_cP, q_xI, q_xV, q_xP, q_xJ, g_gk, g_ga, g_gw, g_gp, g_gq, g_P, g_J, q_I_s, q_I_n, q_I_k, nI_add, pk_sub, pk_mul, nI_clamp, n_lt0, n_0lt, n_eq0, n_lt, n_le, n_eq, n_m1, n_m2, n_m9, n_12, n_19, n_10, n_01, n_1n1, n_0n1, n_1n0, n_0n0, n_dI, n_m1lt, q_inb, n_nar, n_nar0, n_nar1, n_bool, Bool.false_eq_true, Bool.true_eq_false, if_true, if_false, ↓reduceIte, Nat.reduceAdd, Nat.reduceMul, Nat.reduceSub, Nat.reduceLT, Nat.reduceLeDiff, Nat.reduceEqDiff, Nat.reduceMod, Nat.reduceDiv, q_R r8.1, e9, y1]
    · simp (disch := omega) only [q_ckt, q_lt, q_cI, q_cJ, q_cV, q_cP, q_xI, q_xV, q_xP, q_xJ, g_gk, g_ga, g_gw, g_gp, g_gq, g_P, g_J, q_I_s, q_I_n, q_I_k, nI_add, pk_sub, pk_mul, nI_clamp, n_lt0, n_0lt, n_eq0, n_lt, n_le, n_eq, n_m1, n_m2, n_m9, n_12, n_19, n_10, n_01, n_1n1, n_0n1, n_1n0, n_0n0, n_dI, n_m1lt, q_inb, n_nar, n_nar0, n_nar1, n_bool, Bool.false_eq_true, Bool.true_eq_false, if_true, if_false, ↓reduceIte, Nat.reduceAdd, Nat.reduceMul, Nat.reduceSub, Nat.reduceLT, Nat.reduceLeDiff, Nat.reduceEqDiff, Nat.reduceMod, Nat.reduceDiv, q_R r8.1, e9, y0, y1]
end PX
section PS2
variable {L : Nat} {xs : Nat → Int32}
theorem S_promise (a b : Int32) : q_St L xs (q_Iv L xs) (m_L_promise 200 1 a b 436) (m_X12_promise 200 412 a b) := by
  refine q_St_mk (x := m_X11_promise 199 1 a b) (fun M => E_L_promise 199 1 a b 436 M) fun M hp hI => ?_
  have hc := c_I_c hp hI.1
  have hr := c_I_r hp hI.1
  have hwf := hI.1.1
  generalize M.1 413 = K at hc hr hwf
  have hk := hc.2.2.1
  have hb := k_bds hk
  have hmb := k_mb_lt hk
  have w2 : ((0 : Int64).toInt ≤ b.toInt64.toInt ∧ b.toInt64.toInt ≤ (2 : Int64).toInt) = (k_rng b 3 = true) := k_wir (c := 2) (n := 2) (by decide +kernel)
  have ns := c_ns2 (d := 196) (lo := 2) (hi := 8) (a := a) hc (by decide) (by decide)
  have bad : (∀ M', r_rl M' K → ∃ M2, m_X12_promise 200 412 a b M' = ir_oI (nI 0) M2 ∧ M2 = ir_sI (ir_sI M' 412 4 (nI 0)) 412 4 (nI 1)) → m_X11_promise 199 1 a b M = ir_oX 3 (ir_th M) → (∃ v, c_ans (m_X11_promise 199 1 a b) M v ∧ ∀ M', q_st 0 M M' → r_ans (m_X12_promise 200 412 a b) M' v 0) ∨ (∃ e k, 0 < k ∧ k < 9 ∧ m_X11_promise 199 1 a b M = ir_oX e (ir_th M) ∧ (∀ M, (fun e4 M5 => if e4 = 3 then ir_oI (nI 1) M5 else none) e M = ir_oI (nI k) M) ∧ ∀ M', q_st 1 M M' → ∃ b', r_ans (m_X12_promise 200 412 a b) M' b' k) := fun hR hC => by
    refine Or.inr ⟨3, 1, by omega, by omega, hC, fun _ => rfl, fun M' s => ?_⟩
    obtain ⟨M2, e2, rfl⟩ := hR M' (q_st_r s hr)
    exact ⟨nI 0, _, e2, (q_st_4 s.1.1 (k := 4) rfl).tr (q_st_4 (M := ir_sI M' 412 4 (nI 0)) s.1.1 (k := 4) (v := nI 1) rfl), rfl, q_I_s⟩
  by_cases hset : a &&& (nI (k_mb K) ^^^ (-1 : Int32)) = 0
  · obtain ⟨S, hS, rfl, hm⟩ := n_sub hmb hset
    have cl := k_card_le S hS
    rw [if_pos hset, n_bc S hS] at ns
    by_cases h2 : 2 ≤ k_card S
    · have ns' : m_X11_needSet 198 1 (nI S) (nI 2) (nI 8) M = ir_oV M := by
        rw [ns]
        simp (disch := omega) only [q_ckt, q_lt, q_cI, q_cJ, q_cV, q_cP, q_xI, q_xV, q_xP, q_xJ, g_gk, g_ga, g_gw, g_gp, g_gq, g_P, g_J, q_I_s, q_I_n, q_I_k, nI_add, pk_sub, pk_mul, nI_clamp, n_lt0, n_0lt, n_eq0, n_lt, n_le, n_eq, n_m1, n_m2, n_m9, n_12, n_19, n_10, n_01, n_1n1, n_0n1, n_1n0, n_0n0, n_dI, n_m1lt, q_inb, n_nar, n_nar0, n_nar1, n_bool, Bool.false_eq_true, Bool.true_eq_false, if_true, if_false, ↓reduceIte, Nat.reduceAdd, Nat.reduceMul, Nat.reduceSub, Nat.reduceLT, Nat.reduceLeDiff, Nat.reduceEqDiff, Nat.reduceMod, Nat.reduceDiv, show ¬ k_card S < 2 by omega, show ¬ 8 < k_card S by omega]
      have hS0 : 0 < S := by
        rcases Nat.eq_zero_or_pos S with q | q
        · rw [q] at h2
          exact absurd h2 (by decide)
        · exact q
      by_cases hbk : k_rng b 3
      · obtain ⟨y, hy, rfl⟩ := k_rng_of hbk (by decide)
        refine Or.inl ⟨if y = 0 then (if k_any (k_ph K S) (k_m K) = true then nI 0 else nI 1) else if y = 1 then k_pgn K S (k_m K) else k_on (k_f1 (k_pbk K S) (k_n K) 0), ?_, fun M' s => ?_⟩
        · obtain ⟨M1, e1, q1, r1, h1⟩ := c_layCh (d := 193) hc
          have c1 := c_rl_eq hc q1 (by decide)
          obtain ⟨M2, e2, q2, r2, f2, t2⟩ := c_mkp (d := 193) (S := S) c1 hwf r1 h1
          have q12 : q_eq [91, 92, 93, 94, 95, 96, 9, 117, 118, 119, 120] M M2 := (q1.sub (by decide)).tr (q2.sub (by decide))
          have c2 := q_st_c (q_st_eq hp q12 (by decide)) hc
          have h2' : ∀ j, j < k_m K → ir_I M2 119 j = nI (k_ch K j (k_g K)) := fun j hj => by rw [q_I_eq q2 (by decide)]; exact h1 j hj
          by_cases y0 : y = 0
          · have ph := c_phd (d := 195) c2 f2 t2 (k_m K) 0 (by omega)
            rw [k_f1_any] at ph
            refine ⟨M2, ?_, q_st_eq hp q12 (by decide)⟩
            have EH : m_X11_promiseHolds 198 1 (nI S) M2 = ir_oI (if k_any (k_ph K S) (k_m K) = true then nI 0 else nI 1) M2 := (E_X11_promiseHolds 197 1 _ M2).trans ph
            rw [E_X11_promise 198]
            cases ea : k_any (k_ph K S) (k_m K)
            · rw [ea] at EH
              simp (disch := omega) only [q_ckt, q_lt, q_cI, q_cJ, q_cV, q_cP, q_xI, q_xV, q_xP, q_xJ, g_gk, g_ga, g_gw, g_gp, g_gq, g_P, g_J, q_I_s, q_I_n, q_I_k, nI_add, pk_sub, pk_mul, nI_clamp, n_lt0, n_0lt, n_eq0, n_lt, n_le, n_eq, n_m1, n_m2, n_m9, n_12, n_19, n_10, n_01, n_1n1, n_0n1, n_1n0, n_0n0, n_dI, n_m1lt, q_inb, n_nar, n_nar0, n_nar1, n_bool, Bool.false_eq_true, Bool.true_eq_false, if_true, if_false, ↓reduceIte, Nat.reduceAdd, Nat.reduceMul, Nat.reduceSub, Nat.reduceLT, Nat.reduceLeDiff, Nat.reduceEqDiff, Nat.reduceMod, Nat.reduceDiv, q_W hp, ns', y0, e1, q_W c1.1, e2, q_W c2.1, EH]
            · rw [ea] at EH
              simp (disch := omega) only [q_ckt, q_lt, q_cI, q_cJ, q_cV, q_cP, q_xI, q_xV, q_xP, q_xJ, g_gk, g_ga, g_gw, g_gp, g_gq, g_P, g_J, q_I_s, q_I_n, q_I_k, nI_add, pk_sub, pk_mul, nI_clamp, n_lt0, n_0lt, n_eq0, n_lt, n_le, n_eq, n_m1, n_m2, n_m9, n_12, n_19, n_10, n_01, n_1n1, n_0n1, n_1n0, n_0n0, n_dI, n_m1lt, q_inb, n_nar, n_nar0, n_nar1, n_bool, Bool.false_eq_true, Bool.true_eq_false, if_true, if_false, ↓reduceIte, Nat.reduceAdd, Nat.reduceMul, Nat.reduceSub, Nat.reduceLT, Nat.reduceLeDiff, Nat.reduceEqDiff, Nat.reduceMod, Nat.reduceDiv, q_W hp, ns', y0, e1, q_W c1.1, e2, q_W c2.1, EH]
          · by_cases y1 : y = 1
            · have pg := c_pgn (d := 195) c2 f2 t2
              refine ⟨M2, ?_, q_st_eq hp q12 (by decide)⟩
              rw [E_X11_promise 198]
              simp (disch := omega) only [q_ckt, q_lt, q_cI, q_cJ, q_cV, q_cP, q_xI, q_xV, q_xP, q_xJ, g_gk, g_ga, g_gw, g_gp, g_gq, g_P, g_J, q_I_s, q_I_n, q_I_k, nI_add, pk_sub, pk_mul, nI_clamp, n_lt0, n_0lt, n_eq0, n_lt, n_le, n_eq, n_m1, n_m2, n_m9, n_12, n_19, n_10, n_01, n_1n1, n_0n1, n_1n0, n_0n0, n_dI, n_m1lt, q_inb, n_nar, n_nar0, n_nar1, n_bool, Bool.false_eq_true, Bool.true_eq_false, if_true, if_false, ↓reduceIte, Nat.reduceAdd, Nat.reduceMul, Nat.reduceSub, Nat.reduceLT, Nat.reduceLeDiff, Nat.reduceEqDiff, Nat.reduceMod, Nat.reduceDiv, q_W hp, ns', y1, e1, q_W c1.1, e2, q_W c2.1, pg]
            · obtain ⟨M3, e3, q3⟩ := c_pbk (d := 192) (S := S) (k_n K) 0 c2 r2 h2' (by omega)
              have EB : m_X11_promiseBreaker 198 1 (nI S) M2 = ir_oI (k_on (k_f1 (k_pbk K S) (k_n K) 0)) M3 := (E_X11_promiseBreaker 197 1 _ M2).trans e3
              refine ⟨M3, ?_, q_st_eq hp (q12.tr (q3.sub (by decide))) (by decide)⟩
              rw [E_X11_promise 198]
              simp (disch := omega) only [q_ckt, q_lt, q_cI, q_cJ, q_cV, q_cP, q_xI, q_xV, q_xP, q_xJ, g_gk, g_ga, g_gw, g_gp, g_gq, g_P, g_J, q_I_s, q_I_n, q_I_k, nI_add, pk_sub, pk_mul, nI_clamp, n_lt0, n_0lt, n_eq0, n_lt, n_le, n_eq, n_m1, n_m2, n_m9, n_12, n_19, n_10, n_01, n_1n1, n_0n1, n_1n0, n_0n0, n_dI, n_m1lt, q_inb, n_nar, n_nar0, n_nar1, n_bool, Bool.false_eq_true, Bool.true_eq_false, if_true, if_false, ↓reduceIte, Nat.reduceAdd, Nat.reduceMul, Nat.reduceSub, Nat.reduceLT, Nat.reduceLeDiff, Nat.reduceEqDiff, Nat.reduceMod, Nat.reduceDiv, q_W hp, ns', show ¬ 2 < y by omega, e1, q_W c1.1, e2, q_W c2.1, y0, y1, EB]
        · have hr' := q_st_r s hr
          have h4 := r_4 (v := nI 0) hr'
          obtain ⟨N1, f1, t1⟩ := r_prm (d := 191) h4 hS hm hy
          refine ⟨N1, ?_, (q_st_4 hr'.1 rfl).tr (q_st_eq h4.1 t1 (by decide)), by rw [t1.2]; rfl, (q_I_eq t1 (by decide) 4).trans q_I_s⟩
          rw [E_X12_promise 199]
          have hd : k_dif S (k_mb K) < 256 := k_dif_lt hS
          simp (disch := omega) only [q_ckt, q_lt, q_cI, q_cJ, q_cV, q_cP, q_xI, q_xV, q_xP, q_xJ, g_gk, g_ga, g_gw, g_gp, g_gq, g_P, g_J, q_I_s, q_I_n, q_I_k, nI_add, pk_sub, pk_mul, nI_clamp, n_lt0, n_0lt, n_eq0, n_lt, n_le, n_eq, n_m1, n_m2, n_m9, n_12, n_19, n_10, n_01, n_1n1, n_0n1, n_1n0, n_0n0, n_dI, n_m1lt, q_inb, n_nar, n_nar0, n_nar1, n_bool, Bool.false_eq_true, Bool.true_eq_false, if_true, if_false, ↓reduceIte, Nat.reduceAdd, Nat.reduceMul, Nat.reduceSub, Nat.reduceLT, Nat.reduceLeDiff, Nat.reduceEqDiff, Nat.reduceMod, Nat.reduceDiv, q_R hr'.1, hS0, r_mb h4, n_dif, hm, r_size hS, show ¬ k_card S < 2 by omega, L_X12_promise_33, r_within, w2, hbk]
          exact f1
      · refine bad (fun M' hr' => ⟨_, ?_, rfl⟩) ?_
        · have h4 := r_4 (v := nI 0) hr'
          rw [E_X12_promise 199]
          simp (disch := omega) only [q_ckt, q_lt, q_cI, q_cJ, q_cV, q_cP, q_xI, q_xV, q_xP, q_xJ, g_gk, g_ga, g_gw, g_gp, g_gq, g_P, g_J, q_I_s, q_I_n, q_I_k, nI_add, pk_sub, pk_mul, nI_clamp, n_lt0, n_0lt, n_eq0, n_lt, n_le, n_eq, n_m1, n_m2, n_m9, n_12, n_19, n_10, n_01, n_1n1, n_0n1, n_1n0, n_0n0, n_dI, n_m1lt, q_inb, n_nar, n_nar0, n_nar1, n_bool, Bool.false_eq_true, Bool.true_eq_false, if_true, if_false, ↓reduceIte, Nat.reduceAdd, Nat.reduceMul, Nat.reduceSub, Nat.reduceLT, Nat.reduceLeDiff, Nat.reduceEqDiff, Nat.reduceMod, Nat.reduceDiv, q_R hr'.1, hS0, r_mb h4, n_dif, hm, r_size hS, show ¬ k_card S < 2 by omega, L_X12_promise_33, r_within, w2, hbk, r_fails h4.1]
        · rw [E_X11_promise 198]
          simp (disch := omega) only [q_ckt, q_lt, q_cI, q_cJ, q_cV, q_cP, q_xI, q_xV, q_xP, q_xJ, g_gk, g_ga, g_gw, g_gp, g_gq, g_P, g_J, q_I_s, q_I_n, q_I_k, nI_add, pk_sub, pk_mul, nI_clamp, n_lt0, n_0lt, n_eq0, n_lt, n_le, n_eq, n_m1, n_m2, n_m9, n_12, n_19, n_10, n_01, n_1n1, n_0n1, n_1n0, n_0n0, n_dI, n_m1lt, q_inb, n_nar, n_nar0, n_nar1, n_bool, Bool.false_eq_true, Bool.true_eq_false, if_true, if_false, ↓reduceIte, Nat.reduceAdd, Nat.reduceMul, Nat.reduceSub, Nat.reduceLT, Nat.reduceLeDiff, Nat.reduceEqDiff, Nat.reduceMod, Nat.reduceDiv, q_W hp, ns']
          rw [k_rng_d (n := 2) (by decide), if_neg hbk]
    · have ns' : m_X11_needSet 198 1 (nI S) (nI 2) (nI 8) M = ir_oX 3 (ir_th M) := by
        rw [ns]
        simp (disch := omega) only [q_ckt, q_lt, q_cI, q_cJ, q_cV, q_cP, q_xI, q_xV, q_xP, q_xJ, g_gk, g_ga, g_gw, g_gp, g_gq, g_P, g_J, q_I_s, q_I_n, q_I_k, nI_add, pk_sub, pk_mul, nI_clamp, n_lt0, n_0lt, n_eq0, n_lt, n_le, n_eq, n_m1, n_m2, n_m9, n_12, n_19, n_10, n_01, n_1n1, n_0n1, n_1n0, n_0n0, n_dI, n_m1lt, q_inb, n_nar, n_nar0, n_nar1, n_bool, Bool.false_eq_true, Bool.true_eq_false, if_true, if_false, ↓reduceIte, Nat.reduceAdd, Nat.reduceMul, Nat.reduceSub, Nat.reduceLT, Nat.reduceLeDiff, Nat.reduceEqDiff, Nat.reduceMod, Nat.reduceDiv, show k_card S < 2 by omega]
      refine bad (fun M' hr' => ⟨_, ?_, rfl⟩) ?_
      · have h4 := r_4 (v := nI 0) hr'
        rw [E_X12_promise 199]
        by_cases hS0 : 0 < S
        · simp (disch := omega) only [q_ckt, q_lt, q_cI, q_cJ, q_cV, q_cP, q_xI, q_xV, q_xP, q_xJ, g_gk, g_ga, g_gw, g_gp, g_gq, g_P, g_J, q_I_s, q_I_n, q_I_k, nI_add, pk_sub, pk_mul, nI_clamp, n_lt0, n_0lt, n_eq0, n_lt, n_le, n_eq, n_m1, n_m2, n_m9, n_12, n_19, n_10, n_01, n_1n1, n_0n1, n_1n0, n_0n0, n_dI, n_m1lt, q_inb, n_nar, n_nar0, n_nar1, n_bool, Bool.false_eq_true, Bool.true_eq_false, if_true, if_false, ↓reduceIte, Nat.reduceAdd, Nat.reduceMul, Nat.reduceSub, Nat.reduceLT, Nat.reduceLeDiff, Nat.reduceEqDiff, Nat.reduceMod, Nat.reduceDiv, q_R hr'.1, hS0, r_mb h4, n_dif, hm, r_size hS, show k_card S < 2 by omega, L_X12_promise_33, r_fails h4.1]
        · simp (disch := omega) only [q_ckt, q_lt, q_cI, q_cJ, q_cV, q_cP, q_xI, q_xV, q_xP, q_xJ, g_gk, g_ga, g_gw, g_gp, g_gq, g_P, g_J, q_I_s, q_I_n, q_I_k, nI_add, pk_sub, pk_mul, nI_clamp, n_lt0, n_0lt, n_eq0, n_lt, n_le, n_eq, n_m1, n_m2, n_m9, n_12, n_19, n_10, n_01, n_1n1, n_0n1, n_1n0, n_0n0, n_dI, n_m1lt, q_inb, n_nar, n_nar0, n_nar1, n_bool, Bool.false_eq_true, Bool.true_eq_false, if_true, if_false, ↓reduceIte, Nat.reduceAdd, Nat.reduceMul, Nat.reduceSub, Nat.reduceLT, Nat.reduceLeDiff, Nat.reduceEqDiff, Nat.reduceMod, Nat.reduceDiv, q_R hr'.1, hS0, L_X12_promise_33, r_fails h4.1]
      · rw [E_X11_promise 198]
        simp (disch := omega) only [q_ckt, q_lt, q_cI, q_cJ, q_cV, q_cP, q_xI, q_xV, q_xP, q_xJ, g_gk, g_ga, g_gw, g_gp, g_gq, g_P, g_J, q_I_s, q_I_n, q_I_k, nI_add, pk_sub, pk_mul, nI_clamp, n_lt0, n_0lt, n_eq0, n_lt, n_le, n_eq, n_m1, n_m2, n_m9, n_12, n_19, n_10, n_01, n_1n1, n_0n1, n_1n0, n_0n0, n_dI, n_m1lt, q_inb, n_nar, n_nar0, n_nar1, n_bool, Bool.false_eq_true, Bool.true_eq_false, if_true, if_false, ↓reduceIte, Nat.reduceAdd, Nat.reduceMul, Nat.reduceSub, Nat.reduceLT, Nat.reduceLeDiff, Nat.reduceEqDiff, Nat.reduceMod, Nat.reduceDiv, q_W hp, ns']
  · rw [if_neg hset] at ns
    refine bad (fun M' hr' => ⟨_, ?_, rfl⟩) ?_
    · have h4 := r_4 (v := nI 0) hr'
      rw [E_X12_promise 199]
      by_cases h0 : 0 < a
      · simp (disch := omega) only [q_ckt, q_lt, q_cI, q_cJ, q_cV, q_cP, q_xI, q_xV, q_xP, q_xJ, g_gk, g_ga, g_gw, g_gp, g_gq, g_P, g_J, q_I_s, q_I_n, q_I_k, nI_add, pk_sub, pk_mul, nI_clamp, n_lt0, n_0lt, n_eq0, n_lt, n_le, n_eq, n_m1, n_m2, n_m9, n_12, n_19, n_10, n_01, n_1n1, n_0n1, n_1n0, n_0n0, n_dI, n_m1lt, q_inb, n_nar, n_nar0, n_nar1, n_bool, Bool.false_eq_true, Bool.true_eq_false, if_true, if_false, ↓reduceIte, Nat.reduceAdd, Nat.reduceMul, Nat.reduceSub, Nat.reduceLT, Nat.reduceLeDiff, Nat.reduceEqDiff, Nat.reduceMod, Nat.reduceDiv, q_R hr'.1, h0, r_mb h4, hset, L_X12_promise_33, r_fails h4.1]
      · simp (disch := omega) only [q_ckt, q_lt, q_cI, q_cJ, q_cV, q_cP, q_xI, q_xV, q_xP, q_xJ, g_gk, g_ga, g_gw, g_gp, g_gq, g_P, g_J, q_I_s, q_I_n, q_I_k, nI_add, pk_sub, pk_mul, nI_clamp, n_lt0, n_0lt, n_eq0, n_lt, n_le, n_eq, n_m1, n_m2, n_m9, n_12, n_19, n_10, n_01, n_1n1, n_0n1, n_1n0, n_0n0, n_dI, n_m1lt, q_inb, n_nar, n_nar0, n_nar1, n_bool, Bool.false_eq_true, Bool.true_eq_false, if_true, if_false, ↓reduceIte, Nat.reduceAdd, Nat.reduceMul, Nat.reduceSub, Nat.reduceLT, Nat.reduceLeDiff, Nat.reduceEqDiff, Nat.reduceMod, Nat.reduceDiv, q_R hr'.1, h0, L_X12_promise_33, r_fails h4.1]
    · rw [E_X11_promise 198]
      simp (disch := omega) only [q_ckt, q_lt, q_cI, q_cJ, q_cV, q_cP, q_xI, q_xV, q_xP, q_xJ, g_gk, g_ga, g_gw, g_gp, g_gq, g_P, g_J, q_I_s, q_I_n, q_I_k, nI_add, pk_sub, pk_mul, nI_clamp, n_lt0, n_0lt, n_eq0, n_lt, n_le, n_eq, n_m1, n_m2, n_m9, n_12, n_19, n_10, n_01, n_1n1, n_0n1, n_1n0, n_0n0, n_dI, n_m1lt, q_inb, n_nar, n_nar0, n_nar1, n_bool, Bool.false_eq_true, Bool.true_eq_false, if_true, if_false, ↓reduceIte, Nat.reduceAdd, Nat.reduceMul, Nat.reduceSub, Nat.reduceLT, Nat.reduceLeDiff, Nat.reduceEqDiff, Nat.reduceMod, Nat.reduceDiv, q_W hp, ns]
end PS2
