/-! secrets, the reference -/
def q_rs (M M' : ir_M) : Prop := (∀ a, a ≠ 418 → a ≠ 419 → a ≠ 420 → a ≠ 432 → M'.1 a = M.1 a) ∧ (∀ a, a ≠ 412 → M'.2.1 a = M.2.1 a) ∧ M'.2.2 = M.2.2
theorem q_rs.tr {A B C : ir_M} (h : q_rs A B) (g : q_rs B C) : q_rs A C := ⟨fun a h1 h2 h3 h4 => (g.1 a h1 h2 h3 h4).trans (h.1 a h1 h2 h3 h4), fun a ha => (g.2.1 a ha).trans (h.2.1 a ha), g.2.2.trans h.2.2⟩
theorem q_rs.rf {M : ir_M} : q_rs M M := ⟨fun _ _ _ _ _ => rfl, fun _ _ => rfl, rfl⟩
theorem q_rs_eq {S : List Nat} {M M' : ir_M} (h : q_eq S M M') (hS : ∀ a ∈ S, a = 418 ∨ a = 419 ∨ a = 420 ∨ a = 432) : q_rs M M' := ⟨fun a h1 h2 h3 h4 => h.1 a (fun q => by rcases hS a q with w | w | w | w; exact h1 w; exact h2 w; exact h3 w; exact h4 w), fun a _ => by rw [h.2], by rw [h.2]⟩
theorem q_rs.st {M M' : ir_M} (hp : q_PI M) (h : q_rs M M') : q_st 0 M M' := by
  obtain ⟨h1, h2, h3⟩ := h
  have tm : ∀ a, q_tmp a = false → M'.1 a = M.1 a := fun a ha => h1 a (fun q => by rw [q] at ha; exact nomatch ha) (fun q => by rw [q] at ha; exact nomatch ha) (fun q => by rw [q] at ha; exact nomatch ha) (fun q => by rw [q] at ha; exact nomatch ha)
  refine ⟨⟨q_PI_tt h3 hp, fun a ha => ⟨h1 a (by omega) (by omega) (by omega) (by omega), h2 a (by omega), by rw [h3]⟩, ?_, ?_⟩, fun a ha => tm a ?_, ⟨fun a k ha => congrFun (tm a ?_) k, fun a ha => h2 a (fun q => by rw [q] at ha; exact nomatch ha)⟩, fun a k ha => congrFun (tm a ?_) k⟩
  · show M'.2.2.2.2.1 ≤ M.2.2.2.2.1 + 0
    rw [h3]
    exact Nat.le_refl _
  · show M'.2.2.2.2.2.1 ≤ M.2.2.2.2.2.1 + 6 * 0
    rw [h3]
    exact Nat.le_refl _
  · cases e : q_tmp a
    · rfl
    · rw [(q_tmp_no e).1] at ha; exact nomatch ha
  · cases e : q_tmp a
    · rfl
    · rw [(q_tmp_no e).2.1 k] at ha; exact nomatch ha
  · cases e : q_tmp a
    · rfl
    · rw [(q_tmp_no e).2.2 k] at ha; exact nomatch ha
theorem r_rl_rs {M M' : ir_M} {K : Nat → Int32} (h : r_rl M K) (q : q_rs M M') : r_rl M' K := ⟨q_PI_tt q.2.2 h.1, h.2.1, fun k => (congrFun (q.1 413 (by decide) (by decide) (by decide) (by decide)) k).trans (h.2.2 k)⟩
theorem r_tt_rs {M M' : ir_M} {t mn : Nat} {T : Nat → Int64} (h : r_tt M t mn T) (q : q_rs M M') : r_tt M' t mn T := ⟨h.1, h.2.1, (congrFun (q.1 434 (by decide) (by decide) (by decide) (by decide)) t).trans h.2.2.1, fun k hk => (congrFun (q.2.1 435 (by decide)) (30 * t + k)).trans (h.2.2.2 k hk)⟩
/-! one option more -/
theorem k_bl_mem {o v : Nat} : v ∈ k_bl o 8 ↔ v < 8 ∧ o.testBit v = true := by
  unfold k_bl
  rw [List.mem_filter, List.mem_range]
theorem k_prd_c {o : Nat} {os : List Nat} : k_prd (o :: os) = (k_bl o 8).flatMap (fun v => (k_prd os).map (fun a => v :: a)) := rfl
theorem k_prd_mc {o : Nat} {os b : List Nat} : b ∈ k_prd (o :: os) ↔ ∃ v b', b = v :: b' ∧ v < 8 ∧ o.testBit v = true ∧ b' ∈ k_prd os := by
  rw [k_prd_c, List.mem_flatMap]
  constructor
  · rintro ⟨v, hv, h⟩
    rw [List.mem_map] at h
    obtain ⟨b', hb, e⟩ := h
    obtain ⟨h1, h2⟩ := k_bl_mem.mp hv
    exact ⟨v, b', e.symm, h1, h2, hb⟩
  · rintro ⟨v, b', e, h1, h2, h3⟩
    exact ⟨v, k_bl_mem.mpr ⟨h1, h2⟩, List.mem_map.mpr ⟨b', h3, e.symm⟩⟩
theorem k_prd_or {o v : Nat} {os : List Nat} (hv : v < 8) (hb : o.testBit v = false) (P : List Nat → Bool) : k_cnt P (k_prd ((o ||| 2 ^ v) :: os)) = k_cnt P (k_prd (o :: os)) + k_cnt (fun b => P (v :: b)) (k_prd os) := by
  rw [k_prd_c, k_prd_c, k_cnt_flat, k_cnt_flat, k_sl_bl, k_sl_bl]
  have e : k_cnt (fun b => P (v :: b)) (k_prd os) = k_su (fun i => if i = v then k_cnt (fun b => P (v :: b)) (k_prd os) else 0) 8 := by rw [k_su_one, if_pos hv]
  rw [e, ← k_su_add]
  refine k_su_cg _ fun i hi => ?_
  rw [Nat.testBit_or, n_p2b]
  by_cases q : v = i
  · subst q
    rw [decide_eq_true rfl, Bool.or_true, if_pos rfl, hb, if_neg (by decide), if_pos rfl, Nat.zero_add, k_cnt_map]
  · rw [decide_eq_false q, Bool.or_false, if_neg (show ¬ i = v from fun w => q w.symm), Nat.add_zero]
theorem k_prd_0 {os : List Nat} (P : List Nat → Bool) : k_cnt P (k_prd (0 :: os)) = 0 := k_prd_e (i := 0) (by show 0 < os.length + 1; omega) rfl P
theorem k_prd_mo {o v : Nat} {os b : List Nat} (hv : v < 8) : b ∈ k_prd ((o ||| 2 ^ v) :: os) ↔ b ∈ k_prd (o :: os) ∨ ∃ b', b = v :: b' ∧ b' ∈ k_prd os := by
  rw [k_prd_mc, k_prd_mc]
  constructor
  · rintro ⟨x, b', e, h1, h2, h3⟩
    rw [Nat.testBit_or, n_p2b, Bool.or_eq_true] at h2
    rcases h2 with q | q
    · exact Or.inl ⟨x, b', e, h1, q, h3⟩
    · rw [← of_decide_eq_true q] at e
      exact Or.inr ⟨b', e, h3⟩
  · rintro (⟨x, b', e, h1, h2, h3⟩ | ⟨b', e, h3⟩)
    · exact ⟨x, b', e, h1, by rw [Nat.testBit_or, h2]; rfl, h3⟩
    · exact ⟨v, b', e, hv, by rw [Nat.testBit_or, n_p2b, decide_eq_true rfl, Bool.or_true], h3⟩
/-! bits -/
def k_b2 (c : Nat) : Nat := if c = 1 then 6 else c - 2
def r_sb (K : Nat → Int32) (S : Nat → Nat) (M : ir_M) : Prop := ∀ i, i < k_m K → ir_I M 432 i = nI (S i) ∧ S i < 128
section RG
variable {K : Nat → Int32} {d t mn : Nat} {T : Nat → Int64}
theorem n_cv2 : ∀ c, c < 8 → 2 ≤ c → k_cv c = nI (c - 2) := by decide +kernel
theorem n_cv1 : k_cv 1 = -1 := by decide +kernel
theorem r_sl {a : List Nat} {S : Nat → Nat} {M : ir_M} (hT : ∀ i, i < k_m K → T i = ((T i).toInt32).toInt64) (hal : a.length = k_m K) (hac : ∀ i, i < a.length → 1 ≤ a.getD i 0 ∧ a.getD i 0 < 8 ∧ k_gd K (k_av a i)) (h : r_rl M K) (ht : r_tt M t mn T) (hmn : mn = k_m K) (ha : ∀ i, i < a.length → ir_I M 419 i = k_av a i) (hs : r_sb K S M) : ∃ M' S', m_X12_goesSecrets (d + 4) 412 (nI t) (nI a.length) M = ir_oV M' ∧ q_rs M M' ∧ (∀ i, ir_I M' 419 i = ir_I M 419 i) ∧ ir_J M' 412 46 = ir_J M 412 46 + Int64.ofNat (if k_ok2 K (fun i => (T i).toInt32) a = true then 1 else 0) ∧ r_sb K S' M' ∧ ∀ i, i < k_m K → ∀ c, c < 7 → ((S' i).testBit c = true ↔ (S i).testBit c = true ∨ (k_ok2 K (fun i => (T i).toInt32) a = true ∧ k_b2 (a.getD i 0) = c)) := by
  have hk := h.2.1
  have hb := k_bds hk
  have ht4 := ht.1
  obtain ⟨M1, e1, q1, f1⟩ := r_laysFall (d := d + 1) (m := k_m K) (y := k_y K) (A := k_av a) h (by omega) (fun j hj => ha j (by omega)) (fun j hj => (hac j (by omega)).2.2) hb.2.2.2.2.1 hb.2.2.2.2.2 false
  rw [if_neg (by decide), show (0 : Int32) = nI 0 from rfl] at e1
  have r1 := r_rl_eq h q1 (by decide)
  have t1 := r_tt_rs ht (q_rs_eq q1 (by decide))
  have rs1 := q_rs_eq q1 (by decide)
  -- the check
  have chk : ∀ (r x : Nat), x + r = k_m K → v_X12_goesSecrets_22 (d + 3) 412 (nI t) (nI (k_m K)) (nI x) M1 = if (k_f1 (fun i => !(k_F (k_m K) (fun i => (T i).toInt32) i (k_fe K false (k_m K) (k_av a) (k_y K) i))) r x).isNone = true then v_X12_goesSecrets_86 (d + 3) 412 (nI (k_m K)) (nI 0) M1 else ir_oV M1 := by
    intro r
    induction r with
    | zero =>
      intro x hx
      rw [L_X12_goesSecrets_22]
      simp (disch := omega) only [q_ckt, q_lt, q_cI, q_cJ, q_cV, q_cP, q_xI, q_xV, q_xP, q_xJ, g_gk, g_ga, g_gw, g_gp, g_gq, g_P, g_J, q_I_s, q_I_n, q_I_k, nI_add, pk_sub, pk_mul, nI_clamp, n_lt0, n_0lt, n_eq0, n_lt, n_le, n_eq, n_m1, n_m2, n_m9, n_12, n_19, n_10, n_01, n_1n1, n_0n1, n_1n0, n_0n0, n_dI, n_m1lt, q_inb, n_nar, n_nar0, n_nar1, n_bool, Bool.false_eq_true, Bool.true_eq_false, if_true, if_false, ↓reduceIte, Nat.reduceAdd, Nat.reduceMul, Nat.reduceSub, Nat.reduceLT, Nat.reduceLeDiff, Nat.reduceEqDiff, Nat.reduceMod, Nat.reduceDiv, show ¬ x < k_m K by omega, k_f1, Option.isNone_none]
    | succ r ih =>
      intro x hx
      have i1 := ih (x + 1) (by omega)
      have hxm : x < k_m K := by omega
      have jx := t1.2.2.2 x (by omega)
      have fx := f1 x hxm
      obtain ⟨f, ef⟩ : ∃ f, f = k_fe K false (k_m K) (k_av a) (k_y K) x := ⟨_, rfl⟩
      rw [← ef] at fx
      have eF : k_F (k_m K) (fun i => (T i).toInt32) x f = (decide ((T x).toInt32 = -1) || decide ((if (T x).toInt32 = -2 then -1 else (T x).toInt32) = f)) := by
        unfold k_F
        rw [decide_eq_false (show ¬ k_m K ≤ x by omega), Bool.false_or]
      obtain ⟨n, en⟩ : ∃ n, n = (T x).toInt32 := ⟨_, rfl⟩
      have eT : T x = n.toInt64 := by rw [en]; exact hT x hxm
      rw [eT] at jx
      rw [← en] at eF
      have inj : ∀ p q : Int32, (lg_cmp p.toInt64 q.toInt64 = 0) = (p = q) := fun p q => propext ((k_c0 _ _).trans ⟨fun w => by
        have := congrArg Int64.toInt w
        rw [Int32.toInt_toInt64, Int32.toInt_toInt64] at this
        exact Int32.toInt_inj.mp this, fun w => by rw [w]⟩)
      have c1 : (lg_cmp n.toInt64 (-1 : Int64) = 0) = (n = -1) := inj n (-1)
      have c2 : (lg_cmp n.toInt64 (-2 : Int64) = 0) = (n = -2) := inj n (-2)
      have c3 : (lg_cmp f.toInt64 (-1 : Int64) = 0) = (f = -1) := inj f (-1)
      have c4 := inj f n
      rw [L_X12_goesSecrets_22]
      unfold k_f1
      rw [← ef, eF]
      by_cases q1 : n = -1
      · rw [decide_eq_true q1, Bool.true_or, Bool.not_true]
        have p1 := c1.trans (eq_true q1)
        simp (disch := omega) only [q_ckt, q_lt, q_cI, q_cJ, q_cV, q_cP, q_xI, q_xV, q_xP, q_xJ, g_gk, g_ga, g_gw, g_gp, g_gq, g_P, g_J, q_I_s, q_I_n, q_I_k, nI_add, pk_sub, pk_mul, nI_clamp, n_lt0, n_0lt, n_eq0, n_lt, n_le, n_eq, n_m1, n_m2, n_m9, n_12, n_19, n_10, n_01, n_1n1, n_0n1, n_1n0, n_0n0, n_dI, n_m1lt, q_inb, n_nar, n_nar0, n_nar1, n_bool, Bool.false_eq_true, Bool.true_eq_false, if_true, if_false, ↓reduceIte, Nat.reduceAdd, Nat.reduceMul, Nat.reduceSub, Nat.reduceLT, Nat.reduceLeDiff, Nat.reduceEqDiff, Nat.reduceMod, Nat.reduceDiv, hxm, q_R r1.1, jx, p1]
        exact i1
      · rw [decide_eq_false q1, Bool.false_or]
        have p1 := c1.trans (eq_false q1)
        by_cases q2 : n = -2
        · have p2 := c2.trans (eq_true q2)
          rw [if_pos q2]
          by_cases q3 : f = -1
          · have p3 := c3.trans (eq_true q3)
            rw [decide_eq_true q3.symm, Bool.not_true]
            simp (disch := omega) only [q_ckt, q_lt, q_cI, q_cJ, q_cV, q_cP, q_xI, q_xV, q_xP, q_xJ, g_gk, g_ga, g_gw, g_gp, g_gq, g_P, g_J, q_I_s, q_I_n, q_I_k, nI_add, pk_sub, pk_mul, nI_clamp, n_lt0, n_0lt, n_eq0, n_lt, n_le, n_eq, n_m1, n_m2, n_m9, n_12, n_19, n_10, n_01, n_1n1, n_0n1, n_1n0, n_0n0, n_dI, n_m1lt, q_inb, n_nar, n_nar0, n_nar1, n_bool, Bool.false_eq_true, Bool.true_eq_false, if_true, if_false, ↓reduceIte, Nat.reduceAdd, Nat.reduceMul, Nat.reduceSub, Nat.reduceLT, Nat.reduceLeDiff, Nat.reduceEqDiff, Nat.reduceMod, Nat.reduceDiv, hxm, q_R r1.1, jx, p1, fx, p2, p3]
            exact i1
          · have p3 := c3.trans (eq_false q3)
            rw [decide_eq_false (fun w => q3 w.symm), Bool.not_false]
            simp (disch := omega) only [q_ckt, q_lt, q_cI, q_cJ, q_cV, q_cP, q_xI, q_xV, q_xP, q_xJ, g_gk, g_ga, g_gw, g_gp, g_gq, g_P, g_J, q_I_s, q_I_n, q_I_k, nI_add, pk_sub, pk_mul, nI_clamp, n_lt0, n_0lt, n_eq0, n_lt, n_le, n_eq, n_m1, n_m2, n_m9, n_12, n_19, n_10, n_01, n_1n1, n_0n1, n_1n0, n_0n0, n_dI, n_m1lt, q_inb, n_nar, n_nar0, n_nar1, n_bool, Bool.false_eq_true, Bool.true_eq_false, if_true, if_false, ↓reduceIte, Nat.reduceAdd, Nat.reduceMul, Nat.reduceSub, Nat.reduceLT, Nat.reduceLeDiff, Nat.reduceEqDiff, Nat.reduceMod, Nat.reduceDiv, hxm, q_R r1.1, jx, p1, fx, p2, p3, Option.isNone_some]
        · have p2 := c2.trans (eq_false q2)
          rw [if_neg q2]
          by_cases q3 : f = n
          · have p3 := c4.trans (eq_true q3)
            rw [decide_eq_true q3.symm, Bool.not_true]
            simp (disch := omega) only [q_ckt, q_lt, q_cI, q_cJ, q_cV, q_cP, q_xI, q_xV, q_xP, q_xJ, g_gk, g_ga, g_gw, g_gp, g_gq, g_P, g_J, q_I_s, q_I_n, q_I_k, nI_add, pk_sub, pk_mul, nI_clamp, n_lt0, n_0lt, n_eq0, n_lt, n_le, n_eq, n_m1, n_m2, n_m9, n_12, n_19, n_10, n_01, n_1n1, n_0n1, n_1n0, n_0n0, n_dI, n_m1lt, q_inb, n_nar, n_nar0, n_nar1, n_bool, Bool.false_eq_true, Bool.true_eq_false, if_true, if_false, ↓reduceIte, Nat.reduceAdd, Nat.reduceMul, Nat.reduceSub, Nat.reduceLT, Nat.reduceLeDiff, Nat.reduceEqDiff, Nat.reduceMod, Nat.reduceDiv, hxm, q_R r1.1, jx, p1, fx, p2, p3]
            exact i1
          · have p3 := c4.trans (eq_false q3)
            rw [decide_eq_false (fun w => q3 w.symm), Bool.not_false]
            simp (disch := omega) only [q_ckt, q_lt, q_cI, q_cJ, q_cV, q_cP, q_xI, q_xV, q_xP, q_xJ, g_gk, g_ga, g_gw, g_gp, g_gq, g_P, g_J, q_I_s, q_I_n, q_I_k, nI_add, pk_sub, pk_mul, nI_clamp, n_lt0, n_0lt, n_eq0, n_lt, n_le, n_eq, n_m1, n_m2, n_m9, n_12, n_19, n_10, n_01, n_1n1, n_0n1, n_1n0, n_0n0, n_dI, n_m1lt, q_inb, n_nar, n_nar0, n_nar1, n_bool, Bool.false_eq_true, Bool.true_eq_false, if_true, if_false, ↓reduceIte, Nat.reduceAdd, Nat.reduceMul, Nat.reduceSub, Nat.reduceLT, Nat.reduceLeDiff, Nat.reduceEqDiff, Nat.reduceMod, Nat.reduceDiv, hxm, q_R r1.1, jx, p1, fx, p2, p3, Option.isNone_some]
  have okn : (k_f1 (fun i => !(k_F (k_m K) (fun i => (T i).toInt32) i (k_fe K false (k_m K) (k_av a) (k_y K) i))) (k_m K) 0).isNone = k_ok2 K (fun i => (T i).toInt32) a := by
    have x := k_f1_n (P := fun i => !(k_F (k_m K) (fun i => (T i).toInt32) i (k_fe K false (k_m K) (k_av a) (k_y K) i))) (k_m K) 0
    have y := k_ok2_i (K := K) (N := fun i => (T i).toInt32) (a := a)
    cases e2 : k_ok2 K (fun i => (T i).toInt32) a
    · cases e3 : (k_f1 (fun i => !(k_F (k_m K) (fun i => (T i).toInt32) i (k_fe K false (k_m K) (k_av a) (k_y K) i))) (k_m K) 0).isNone
      · rfl
      · rw [y.mpr (fun i hi => by have := x.mp e3 i (by omega) (by omega); simpa using this)] at e2
        exact nomatch e2
    · exact x.mpr (fun i _ hi => by rw [y.mp e2 i (by omega)]; rfl)
  have y3 : ir_I M 413 3 = nI (k_y K) := by rw [h.2.2]; exact (k_use hk).2.2.1
  have E : ∀ X, (if k_ok2 K (fun i => (T i).toInt32) a = true then v_X12_goesSecrets_86 (d + 3) 412 (nI (k_m K)) (nI 0) M1 else ir_oV M1) = X → m_X12_goesSecrets (d + 4) 412 (nI t) (nI a.length) M = X := fun X hX => by
    have c := chk (k_m K) 0 (by omega)
    rw [okn] at c
    rw [← hX, hal, E_X12_goesSecrets]
    simp (disch := omega) only [q_ckt, q_lt, q_cI, q_cJ, q_cV, q_cP, q_xI, q_xV, q_xP, q_xJ, g_gk, g_ga, g_gw, g_gp, g_gq, g_P, g_J, q_I_s, q_I_n, q_I_k, nI_add, pk_sub, pk_mul, nI_clamp, n_lt0, n_0lt, n_eq0, n_lt, n_le, n_eq, n_m1, n_m2, n_m9, n_12, n_19, n_10, n_01, n_1n1, n_0n1, n_1n0, n_0n0, n_dI, n_m1lt, q_inb, n_nar, n_nar0, n_nar1, n_bool, Bool.false_eq_true, Bool.true_eq_false, if_true, if_false, ↓reduceIte, Nat.reduceAdd, Nat.reduceMul, Nat.reduceSub, Nat.reduceLT, Nat.reduceLeDiff, Nat.reduceEqDiff, Nat.reduceMod, Nat.reduceDiv, q_R h.1, r_qd h, y3, e1]
    exact c
  by_cases qo : k_ok2 K (fun i => (T i).toInt32) a = true
  · rw [if_pos qo]
    have L := q_up (σ := ir_M) (V := fun x t' => v_X12_goesSecrets_86 (d + 3) 412 (nI (k_m K)) (nI x) t') (N := k_m K) (I := fun x t' => q_eq [432] M1 t' ∧ (∀ i, i < x → ir_I t' 432 i = nI (S i ||| 2 ^ k_b2 (a.getD i 0))) ∧ ∀ i, x ≤ i → i < k_m K → ir_I t' 432 i = nI (S i)) (K := fun t' => v_X12_goesSecrets_86 (d + 3) 412 (nI (k_m K)) (nI (k_m K)) t') (by
      rintro x t' hx ⟨hq, g1, g2⟩
      have hpt := q_PI_eq hq r1.1
      obtain ⟨b1, b2, b3⟩ := hac x (by omega)
      have z : ir_I t' 419 x = k_cv (a.getD x 0) := by rw [q_I_eq hq (by decide), q_I_eq q1 (by decide)]; exact ha x (by omega)
      have sx := g2 x (Nat.le_refl _) hx
      have S7 := (hs x hx).2
      refine ⟨ir_sI t' 432 x (nI (S x ||| 2 ^ k_b2 (a.getD x 0))), ⟨hq.tr (q_eq.sI (by decide)), fun i hi => ?_, fun i h1 h2 => ?_⟩, ?_⟩
      · rw [q_I_u]
        by_cases q : i = x
        · rw [if_pos q, q]
        · rw [if_neg q]; exact g1 i (by omega)
      · rw [q_I_k (by omega)]; exact g2 i (by omega) h2
      · rw [L_X12_goesSecrets_86]
        unfold k_b2
        by_cases q : a.getD x 0 = 1
        · rw [q, n_cv1] at z
          rw [if_pos q]
          simp (disch := omega) only [q_ckt, q_lt, q_cI, q_cJ, q_cV, q_cP, q_xI, q_xV, q_xP, q_xJ, g_gk, g_ga, g_gw, g_gp, g_gq, g_P, g_J, q_I_s, q_I_n, q_I_k, nI_add, pk_sub, pk_mul, nI_clamp, n_lt0, n_0lt, n_eq0, n_lt, n_le, n_eq, n_m1, n_m2, n_m9, n_12, n_19, n_10, n_01, n_1n1, n_0n1, n_1n0, n_0n0, n_dI, n_m1lt, q_inb, n_nar, n_nar0, n_nar1, n_bool, Bool.false_eq_true, Bool.true_eq_false, if_true, if_false, ↓reduceIte, Nat.reduceAdd, Nat.reduceMul, Nat.reduceSub, Nat.reduceLT, Nat.reduceLeDiff, Nat.reduceEqDiff, Nat.reduceMod, Nat.reduceDiv, hx, q_R hpt, z, sx, n_or]
        · have z2 := n_cv2 _ b2 (by omega)
          rw [z2] at z
          rw [if_neg q]
          simp (disch := omega) only [q_ckt, q_lt, q_cI, q_cJ, q_cV, q_cP, q_xI, q_xV, q_xP, q_xJ, g_gk, g_ga, g_gw, g_gp, g_gq, g_P, g_J, q_I_s, q_I_n, q_I_k, nI_add, pk_sub, pk_mul, nI_clamp, n_lt0, n_0lt, n_eq0, n_lt, n_le, n_eq, n_m1, n_m2, n_m9, n_12, n_19, n_10, n_01, n_1n1, n_0n1, n_1n0, n_0n0, n_dI, n_m1lt, q_inb, n_nar, n_nar0, n_nar1, n_bool, Bool.false_eq_true, Bool.true_eq_false, if_true, if_false, ↓reduceIte, Nat.reduceAdd, Nat.reduceMul, Nat.reduceSub, Nat.reduceLT, Nat.reduceLeDiff, Nat.reduceEqDiff, Nat.reduceMod, Nat.reduceDiv, hx, q_R hpt, z, sx, n_bit, n_or]) (fun _ _ => rfl) (i := 0) (t := M1) (by omega) ⟨q_eq.rf _ _, fun i hi => absurd hi (by omega), fun i _ hi => by rw [q_I_eq q1 (by decide)]; exact (hs i hi).1⟩
    obtain ⟨M2, ⟨q2, g1, g2⟩, e2⟩ := L
    have p2 := q_PI_eq q2 r1.1
    have b7 : ∀ i, i < k_m K → k_b2 (a.getD i 0) < 7 := fun i hi => by
      obtain ⟨b1, b2, -⟩ := hac i (by omega)
      unfold k_b2
      split <;> omega
    refine ⟨ir_sJ M2 412 46 (ir_J M2 412 46 + 1), fun i => S i ||| 2 ^ k_b2 (a.getD i 0), E _ ?_, (rs1.tr (q_rs_eq q2 (by decide))).tr ⟨fun _ _ _ _ _ => rfl, fun b hb' => if_neg hb', rfl⟩, fun i => ?_, ?_, fun i hi => ⟨g1 i hi, ?_⟩, fun i hi c hc => ?_⟩
    · rw [if_pos qo, e2, L_X12_goesSecrets_86]
      simp (disch := omega) only [q_ckt, q_lt, q_cI, q_cJ, q_cV, q_cP, q_xI, q_xV, q_xP, q_xJ, g_gk, g_ga, g_gw, g_gp, g_gq, g_P, g_J, q_I_s, q_I_n, q_I_k, nI_add, pk_sub, pk_mul, nI_clamp, n_lt0, n_0lt, n_eq0, n_lt, n_le, n_eq, n_m1, n_m2, n_m9, n_12, n_19, n_10, n_01, n_1n1, n_0n1, n_1n0, n_0n0, n_dI, n_m1lt, q_inb, n_nar, n_nar0, n_nar1, n_bool, Bool.false_eq_true, Bool.true_eq_false, if_true, if_false, ↓reduceIte, Nat.reduceAdd, Nat.reduceMul, Nat.reduceSub, Nat.reduceLT, Nat.reduceLeDiff, Nat.reduceEqDiff, Nat.reduceMod, Nat.reduceDiv, Nat.lt_irrefl, q_R p2]
    · rw [s_I, q_I_eq q2 (by decide), q_I_eq q1 (by decide)]
    · rw [s_Js]
      show M2.2.1 412 46 + 1 = _
      rw [q2.2, q1.2]
      rfl
    · exact Nat.or_lt_two_pow (n := 7) (hs i hi).2 (Nat.pow_lt_pow_right (by decide) (b7 i hi))
    · rw [Nat.testBit_or, n_p2b, Bool.or_eq_true, decide_eq_true_iff]
      exact ⟨fun w => w.imp id (fun z => ⟨qo, z⟩), fun w => w.imp id (fun z => z.2)⟩
  · rw [if_neg qo]
    refine ⟨M1, S, E _ (by rw [if_neg qo]), rs1, fun i => q_I_eq q1 (by decide) i, ?_, fun i hi => by rw [q_I_eq q1 (by decide)]; exact hs i hi, fun i hi c hc => ⟨Or.inl, fun w => w.elim id (fun z => absurd z.1 qo)⟩⟩
    show M1.2.1 412 46 = M.2.1 412 46 + 0
    rw [q1.2, Int64.add_zero]
end RG
