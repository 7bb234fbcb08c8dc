/-! secrets in step -/
section RG2
variable {K : Nat → Int32} {d t mn : Nat} {T : Nat → Int64}
theorem k_getc {a : List Nat} {v : Nat} {b : List Nat} : (a ++ [v]) ++ b = a ++ v :: b := List.append_assoc a [v] b
theorem k_av_pre {a : List Nat} {v i : Nat} (hi : i < a.length) : k_av (a ++ [v]) i = k_av a i := by
  unfold k_av
  rw [k_gl hi]
theorem r_gsc (hmn : mn = k_m K) (hT : ∀ i, i < k_m K → T i = ((T i).toInt32).toInt64) : ∀ (r : Nat) {a : List Nat} {S : Nat → Nat} {M : ir_M}, a.length + r = k_m K → (∀ i, i < a.length → 1 ≤ a.getD i 0 ∧ a.getD i 0 < 8 ∧ k_gd K (k_av a i)) → r_rl M K → r_tt M t mn T → (∀ i, i < a.length → ir_I M 419 i = k_av a i) → r_sb K S M → ∃ M' S', m_X12_goesSecrets (d + 4 + r) 412 (nI t) (nI a.length) M = ir_oV M' ∧ q_rs M M' ∧ (∀ i, i < a.length → ir_I M' 419 i = k_av a i) ∧ ir_J M' 412 46 = ir_J M 412 46 + Int64.ofNat (k_cnt (fun b => k_ok2 K (fun i => (T i).toInt32) (a ++ b)) (k_prd (k_os2 (k_op K) a.length r))) ∧ r_sb K S' M' ∧ ∀ i, i < k_m K → ∀ c, c < 7 → ((S' i).testBit c = true ↔ (S i).testBit c = true ∨ ∃ b, b ∈ k_prd (k_os2 (k_op K) a.length r) ∧ k_ok2 K (fun i => (T i).toInt32) (a ++ b) = true ∧ k_b2 ((a ++ b).getD i 0) = c)
  | 0, a, S, M, hl, hac, h, ht, ha, hs => by
    obtain ⟨M', S', e, q, k, j, s, b⟩ := r_sl (d := d) hT (show a.length = k_m K by omega) hac h ht hmn ha hs
    refine ⟨M', S', e, q, fun i hi => (k i).trans (ha i hi), ?_, s, fun i hi c hc => ?_⟩
    · rw [j]
      show _ = _ + Int64.ofNat ((if k_ok2 K (fun i => (T i).toInt32) (a ++ []) = true then 1 else 0) + 0)
      rw [List.append_nil, Nat.add_zero]
    · rw [b i hi c hc]
      constructor
      · rintro (w | ⟨w1, w2⟩)
        · exact Or.inl w
        · exact Or.inr ⟨[], List.mem_singleton.mpr rfl, by rw [List.append_nil]; exact w1, by rw [List.append_nil]; exact w2⟩
      · rintro (w | ⟨b, hb, w1, w2⟩)
        · exact Or.inl w
        · rw [List.mem_singleton.mp hb, List.append_nil] at w1 w2
          exact Or.inr ⟨w1, w2⟩
  | r + 1, a, S, M, hl, hac, h, ht, ha, hs => by
    have hk := h.2.1
    have hb := k_bds hk
    have hlm : a.length < k_m K := by omega
    have hqn := k_qn hk hlm
    obtain ⟨os, eos⟩ : ∃ os, os = k_os2 (k_op K) (a.length + 1) r := ⟨_, rfl⟩
    have eo : k_os2 (k_op K) a.length (r + 1) = k_op K a.length :: os := by rw [eos]; rfl
    rw [eo]
    obtain ⟨P, eP⟩ : ∃ P : List Nat → Bool, P = fun b => k_ok2 K (fun i => (T i).toInt32) (a ++ b) := ⟨_, rfl⟩
    have ePb : ∀ b, k_ok2 K (fun i => (T i).toInt32) (a ++ b) = P b := fun b => by rw [eP]
    simp only [ePb]
    have hrl : ∀ t', q_rs M t' → r_rl t' K := fun t' q => r_rl_rs h q
    -- one code tried
    have try1 : ∀ (t0 : ir_M) (S0 : Nat → Nat) (v : Nat), q_rs M t0 → (∀ i, i < a.length → ir_I t0 419 i = k_av a i) → r_sb K S0 t0 → 1 ≤ v → v < 8 → k_gd K (k_cv v) → ∃ t2 S2, m_X12_goesSecrets (d + 4 + r) 412 (nI t) (nI (a.length + 1)) (ir_sI t0 419 a.length (k_cv v)) = ir_oV t2 ∧ q_rs M t2 ∧ (∀ i, i < a.length → ir_I t2 419 i = k_av a i) ∧ ir_J t2 412 46 = ir_J t0 412 46 + Int64.ofNat (k_cnt (fun b => P (v :: b)) (k_prd os)) ∧ r_sb K S2 t2 ∧ ∀ i, i < k_m K → ∀ c, c < 7 → ((S2 i).testBit c = true ↔ (S0 i).testBit c = true ∨ ∃ b, b ∈ k_prd os ∧ P (v :: b) = true ∧ k_b2 ((a ++ v :: b).getD i 0) = c) := fun t0 S0 v q0 a0 s0 v1 v8 vg => by
      have ln : (a ++ [v]).length = a.length + 1 := by rw [List.length_append]; rfl
      have q1 : q_rs t0 (ir_sI t0 419 a.length (k_cv v)) := q_rs_eq (S := [419]) (q_eq.sI (by decide)) (by decide)
      have hr1 := hrl _ (q0.tr q1)
      obtain ⟨t2, S2, e2, q2, k2, j2, s2, b2⟩ := r_gsc hmn hT r (a := a ++ [v]) (S := S0) (M := ir_sI t0 419 a.length (k_cv v)) (by omega) (fun i hi => by
        by_cases q : i = a.length
        · rw [q]
          unfold k_av
          rw [k_gr]
          exact ⟨v1, v8, vg⟩
        · rw [k_av_pre (by omega), k_gl (by omega)]
          exact hac i (by omega)) hr1 (r_tt_rs ht (q0.tr q1)) (fun i hi => by
        rw [q_I_u]
        by_cases q : i = a.length
        · rw [if_pos q, q]
          unfold k_av
          rw [k_gr]
        · rw [if_neg q, k_av_pre (by omega)]
          exact a0 i (by omega)) (fun i hi => by rw [q_I_n (by decide)]; exact s0 i hi)
      rw [ln] at e2 k2 j2 b2
      rw [← eos] at j2 b2
      refine ⟨t2, S2, e2, (q0.tr q1).tr q2, fun i hi => by rw [k2 i (by omega), k_av_pre hi], ?_, s2, fun i hi c hc => ?_⟩
      · rw [j2]
        show ir_J t0 412 46 + _ = _
        congr 2
        refine k_cnt_cg _ fun b _ => ?_
        rw [k_getc, ePb]
      · rw [b2 i hi c hc]
        constructor
        · rintro (w | ⟨b, hb', w1, w2⟩)
          · exact Or.inl w
          · rw [k_getc] at w1 w2
            rw [ePb] at w1
            exact Or.inr ⟨b, hb', w1, w2⟩
        · rintro (w | ⟨b, hb', w1, w2⟩)
          · exact Or.inl w
          · exact Or.inr ⟨b, hb', by rw [k_getc, ePb]; exact w1, by rw [k_getc]; exact w2⟩
    have L := q_up (σ := ir_M) (V := fun g t' => v_X12_goesSecrets_145 (d + 4 + r) 412 (nI t) (nI a.length) (if k_co K a.length g = 0 then nI 0 else nI 1) (nI g) t') (N := k_g K) (I := fun g t' => q_rs M t' ∧ (∀ i, i < a.length → ir_I t' 419 i = k_av a i) ∧ ir_J t' 412 46 = ir_J M 412 46 + Int64.ofNat (k_cnt P (k_prd (k_co K a.length g :: os))) ∧ ∃ S', r_sb K S' t' ∧ ∀ i, i < k_m K → ∀ c, c < 7 → ((S' i).testBit c = true ↔ (S i).testBit c = true ∨ ∃ b, b ∈ k_prd (k_co K a.length g :: os) ∧ P b = true ∧ k_b2 ((a ++ b).getD i 0) = c)) (K := fun t' => v_X12_goesSecrets_145 (d + 4 + r) 412 (nI t) (nI a.length) (if k_co K a.length (k_g K) = 0 then nI 0 else nI 1) (nI (k_g K)) t') (by
      rintro g t' hg ⟨hq, hka, hj, S', hs', hbits⟩
      have rt := hrl t' hq
      have go := r_go (d := d + 3 + r) rt
      have wh := r_wh (d := d + 3 + r) rt hlm
      obtain ⟨t1, e1, q1⟩ := r_al (d := d + r) rt (p := k_q K a.length) (g := nI g) (pl := nI a.length) hqn (k_gd_na hg)
      rw [show d + 3 + r + 1 = d + 4 + r by omega] at go wh
      rw [show d + r + 4 = d + 4 + r by omega] at e1
      have rs1 := q_rs_eq q1 (by decide)
      have p1 := q_PI_eq q1 rt.1
      have j1 : ir_J t1 412 46 = ir_J t' 412 46 := by show t1.2.1 412 46 = _; rw [q1.2]; rfl
      have ka1 : ∀ i, i < a.length → ir_I t1 419 i = k_av a i := fun i hi => by rw [q_I_eq q1 (by decide)]; exact hka i hi
      have sb1 : r_sb K S' t1 := fun i hi => by rw [q_I_eq q1 (by decide)]; exact hs' i hi
      have ec : k_co K a.length (g + 1) = if k_al K (k_q K a.length) (nI g) (nI a.length) = true then k_co K a.length g ||| 2 ^ (g + 2) else k_co K a.length g := rfl
      by_cases qa : k_al K (k_q K a.length) (nI g) (nI a.length) = true
      · rw [if_pos qa] at ec e1
        have cv : k_cv (g + 2) = nI g := by rw [n_cv2 (g + 2) (by omega) (by omega), show g + 2 - 2 = g by omega]
        have nb : (k_co K a.length g).testBit (g + 2) = false := by rw [k_co_bit, decide_eq_false (by omega)]; rfl
        obtain ⟨t2, S2, e2, q2, k2, j2, s2, b2⟩ := try1 t1 S' (g + 2) (hq.tr rs1) ka1 sb1 (by omega) (by omega) (by rw [cv]; exact k_gd_na hg)
        have ne : ¬ k_co K a.length (g + 1) = 0 := fun w => by
          rw [ec] at w
          have : (k_co K a.length g ||| 2 ^ (g + 2)).testBit (g + 2) = true := by rw [Nat.testBit_or, n_p2b, decide_eq_true rfl, Bool.or_true]
          rw [w, Nat.zero_testBit] at this
          exact nomatch this
        refine ⟨t2, ⟨q2, k2, ?_, S2, s2, fun i hi c hc => ?_⟩, ?_⟩
        · rw [j2, j1, hj, ec, k_prd_or (by omega) nb, Int64.ofNat_add, Int64.add_assoc]
        · rw [b2 i hi c hc, hbits i hi c hc, ec]
          constructor
          · rintro ((w | ⟨b, w1, w2, w3⟩) | ⟨b, w1, w2, w3⟩)
            · exact Or.inl w
            · exact Or.inr ⟨b, (k_prd_mo (by omega)).mpr (Or.inl w1), w2, w3⟩
            · exact Or.inr ⟨(g + 2) :: b, (k_prd_mo (by omega)).mpr (Or.inr ⟨b, rfl, w1⟩), w2, w3⟩
          · rintro (w | ⟨b, w1, w2, w3⟩)
            · exact Or.inl (Or.inl w)
            · rcases (k_prd_mo (by omega)).mp w1 with z | ⟨b', z1, z2⟩
              · exact Or.inl (Or.inr ⟨b, z, w2, w3⟩)
              · rw [z1] at w2 w3
                exact Or.inr ⟨b', z2, w2, w3⟩
        · rw [if_neg ne, L_X12_goesSecrets_145]
          rw [cv] at e2
          simp (disch := omega) only [q_ckt, q_lt, q_cI, q_cJ, q_cV, q_cP, q_xI, q_xV, q_xP, q_xJ, g_gk, g_ga, g_gw, g_gp, g_gq, g_P, g_J, q_I_s, q_I_n, q_I_k, nI_add, pk_sub, pk_mul, nI_clamp, n_lt0, n_0lt, n_eq0, n_lt, n_le, n_eq, n_m1, n_m2, n_m9, n_12, n_19, n_10, n_01, n_1n1, n_0n1, n_1n0, n_0n0, n_dI, n_m1lt, q_inb, n_nar, n_nar0, n_nar1, n_bool, Bool.false_eq_true, Bool.true_eq_false, if_true, if_false, ↓reduceIte, Nat.reduceAdd, Nat.reduceMul, Nat.reduceSub, Nat.reduceLT, Nat.reduceLeDiff, Nat.reduceEqDiff, Nat.reduceMod, Nat.reduceDiv, q_R rt.1, go, hg, wh, e1, n_10, q_R p1, e2]
      · rw [if_neg qa] at ec e1
        refine ⟨t1, ⟨hq.tr rs1, ka1, by rw [j1, ec]; exact hj, S', sb1, by rw [ec]; exact hbits⟩, ?_⟩
        rw [ec, L_X12_goesSecrets_145]
        simp (disch := omega) only [q_ckt, q_lt, q_cI, q_cJ, q_cV, q_cP, q_xI, q_xV, q_xP, q_xJ, g_gk, g_ga, g_gw, g_gp, g_gq, g_P, g_J, q_I_s, q_I_n, q_I_k, nI_add, pk_sub, pk_mul, nI_clamp, n_lt0, n_0lt, n_eq0, n_lt, n_le, n_eq, n_m1, n_m2, n_m9, n_12, n_19, n_10, n_01, n_1n1, n_0n1, n_1n0, n_0n0, n_dI, n_m1lt, q_inb, n_nar, n_nar0, n_nar1, n_bool, Bool.false_eq_true, Bool.true_eq_false, if_true, if_false, ↓reduceIte, Nat.reduceAdd, Nat.reduceMul, Nat.reduceSub, Nat.reduceLT, Nat.reduceLeDiff, Nat.reduceEqDiff, Nat.reduceMod, Nat.reduceDiv, q_R rt.1, go, hg, wh, e1]) (fun _ _ => rfl) (i := 0) (t := M) (by omega) ⟨q_rs.rf, ha, by
          rw [show k_co K a.length 0 = 0 from rfl, k_prd_0]
          show _ = _ + 0
          rw [Int64.add_zero], S, hs, fun i hi c hc => ⟨Or.inl, fun w => w.elim id (fun ⟨b, w1, _⟩ => by
            rw [show k_co K a.length 0 = 0 from rfl] at w1
            obtain ⟨v, b', -, -, z, -⟩ := k_prd_mc.mp w1
            rw [Nat.zero_testBit] at z
            exact nomatch z)⟩⟩
    obtain ⟨t', ⟨hq, hka, hj, S', hs', hbits⟩, ee⟩ := L
    have rt := hrl t' hq
    have go := r_go (d := d + 3 + r) rt
    rw [show d + 3 + r + 1 = d + 4 + r by omega] at go
    have st : ∀ X, v_X12_goesSecrets_145 (d + 4 + r) 412 (nI t) (nI a.length) (if k_co K a.length (k_g K) = 0 then nI 0 else nI 1) (nI (k_g K)) t' = X → m_X12_goesSecrets (d + 4 + (r + 1)) 412 (nI t) (nI a.length) M = X := fun X hX => by
      have qd := r_qd (d := d + 3 + r) h
      rw [show d + 3 + r + 1 = d + 4 + r by omega] at qd
      rw [← hX, ← ee, show d + 4 + (r + 1) = d + 4 + r + 1 by omega, E_X12_goesSecrets]
      simp (disch := omega) only [q_ckt, q_lt, q_cI, q_cJ, q_cV, q_cP, q_xI, q_xV, q_xP, q_xJ, g_gk, g_ga, g_gw, g_gp, g_gq, g_P, g_J, q_I_s, q_I_n, q_I_k, nI_add, pk_sub, pk_mul, nI_clamp, n_lt0, n_0lt, n_eq0, n_lt, n_le, n_eq, n_m1, n_m2, n_m9, n_12, n_19, n_10, n_01, n_1n1, n_0n1, n_1n0, n_0n0, n_dI, n_m1lt, q_inb, n_nar, n_nar0, n_nar1, n_bool, Bool.false_eq_true, Bool.true_eq_false, if_true, if_false, ↓reduceIte, Nat.reduceAdd, Nat.reduceMul, Nat.reduceSub, Nat.reduceLT, Nat.reduceLeDiff, Nat.reduceEqDiff, Nat.reduceMod, Nat.reduceDiv, q_R h.1, qd, show ¬ a.length = k_m K by omega]
      rfl
    unfold k_op
    by_cases q0 : k_co K a.length (k_g K) = 0
    · rw [if_pos q0]
      obtain ⟨t2, S2, e2, q2, k2, j2, s2, b2⟩ := try1 t' S' 1 hq hka hs' (by decide) (by decide) (by rw [n_cv1]; exact Or.inl rfl)
      have e2' : (2 : Nat) = 0 ||| 2 ^ 1 := by decide
      rw [q0, k_prd_0] at hj
      refine ⟨t2, S2, st _ ?_, q2, k2, ?_, s2, fun i hi c hc => ?_⟩
      · rw [if_pos q0, L_X12_goesSecrets_145]
        rw [n_cv1] at e2
        simp (disch := omega) only [q_ckt, q_lt, q_cI, q_cJ, q_cV, q_cP, q_xI, q_xV, q_xP, q_xJ, g_gk, g_ga, g_gw, g_gp, g_gq, g_P, g_J, q_I_s, q_I_n, q_I_k, nI_add, pk_sub, pk_mul, nI_clamp, n_lt0, n_0lt, n_eq0, n_lt, n_le, n_eq, n_m1, n_m2, n_m9, n_12, n_19, n_10, n_01, n_1n1, n_0n1, n_1n0, n_0n0, n_dI, n_m1lt, q_inb, n_nar, n_nar0, n_nar1, n_bool, Bool.false_eq_true, Bool.true_eq_false, if_true, if_false, ↓reduceIte, Nat.reduceAdd, Nat.reduceMul, Nat.reduceSub, Nat.reduceLT, Nat.reduceLeDiff, Nat.reduceEqDiff, Nat.reduceMod, Nat.reduceDiv, q_R rt.1, go, Nat.lt_irrefl, e2]
      · rw [j2, hj, e2', k_prd_or (by decide) (Nat.zero_testBit _), k_prd_0, Nat.zero_add]
        show _ + 0 + _ = _
        rw [Int64.add_zero]
      · rw [b2 i hi c hc, hbits i hi c hc, q0, e2']
        have none0 : ∀ b, ¬ b ∈ k_prd (0 :: os) := fun b w => by
          obtain ⟨v, b', -, -, z, -⟩ := k_prd_mc.mp w
          rw [Nat.zero_testBit] at z
          exact nomatch z
        constructor
        · rintro ((w | ⟨b, w1, -⟩) | ⟨b, w1, w2, w3⟩)
          · exact Or.inl w
          · exact absurd w1 (none0 b)
          · exact Or.inr ⟨1 :: b, (k_prd_mo (by decide)).mpr (Or.inr ⟨b, rfl, w1⟩), w2, w3⟩
        · rintro (w | ⟨b, w1, w2, w3⟩)
          · exact Or.inl (Or.inl w)
          · rcases (k_prd_mo (by decide)).mp w1 with z | ⟨b', z1, z2⟩
            · exact absurd z (none0 b)
            · rw [z1] at w2 w3
              exact Or.inr ⟨b', z2, w2, w3⟩
    · rw [if_neg q0]
      refine ⟨t', S', st _ ?_, hq, hka, hj, hs', hbits⟩
      rw [if_neg q0, L_X12_goesSecrets_145]
      simp (disch := omega) only [q_ckt, q_lt, q_cI, q_cJ, q_cV, q_cP, q_xI, q_xV, q_xP, q_xJ, g_gk, g_ga, g_gw, g_gp, g_gq, g_P, g_J, q_I_s, q_I_n, q_I_k, nI_add, pk_sub, pk_mul, nI_clamp, n_lt0, n_0lt, n_eq0, n_lt, n_le, n_eq, n_m1, n_m2, n_m9, n_12, n_19, n_10, n_01, n_1n1, n_0n1, n_1n0, n_0n0, n_dI, n_m1lt, q_inb, n_nar, n_nar0, n_nar1, n_bool, Bool.false_eq_true, Bool.true_eq_false, if_true, if_false, ↓reduceIte, Nat.reduceAdd, Nat.reduceMul, Nat.reduceSub, Nat.reduceLT, Nat.reduceLeDiff, Nat.reduceEqDiff, Nat.reduceMod, Nat.reduceDiv, q_R rt.1, go, Nat.lt_irrefl]
theorem r_lsc {M : ir_M} (hmn : mn = k_m K) (hT : ∀ i, i < k_m K → T i = ((T i).toInt32).toInt64) (h : r_rl M K) (ht : r_tt M t mn T) : ∃ M' S', m_X12_laysSecrets (d + 14) 412 (nI t) M = ir_oV M' ∧ q_rs M M' ∧ ir_J M' 412 46 = Int64.ofNat (k_cnt (k_ok2 K (fun i => (T i).toInt32)) (k_prd (k_os2 (k_op K) 0 (k_m K)))) ∧ r_sb K S' M' ∧ ∀ i, i < k_m K → ∀ c, c < 7 → ((S' i).testBit c = true ↔ ∃ b, b ∈ k_prd (k_os2 (k_op K) 0 (k_m K)) ∧ k_ok2 K (fun i => (T i).toInt32) b = true ∧ k_b2 (b.getD i 0) = c) := by
  have hk := h.2.1
  have hb := k_bds hk
  obtain ⟨M1, e1⟩ : ∃ N, N = ir_sJ M 412 46 0 := ⟨_, rfl⟩
  have rs1 : q_rs M M1 := by rw [e1]; exact ⟨fun _ _ _ _ _ => rfl, fun a ha => if_neg ha, rfl⟩
  have p1 := q_PI_tt rs1.2.2 h.1
  have L := q_up (σ := ir_M) (V := fun x t' => v_X12_laysSecrets_7 (d + 13) 412 (nI t) (nI x) t') (N := 8) (I := fun x t' => q_eq [432] M1 t' ∧ ∀ i, i < x → ir_I t' 432 i = nI 0) (K := fun t' => v_X12_laysSecrets_7 (d + 13) 412 (nI t) (nI 8) t') (by
    rintro x t' hx ⟨hq, g⟩
    have hpt := q_PI_eq hq p1
    refine ⟨ir_sI t' 432 x (nI 0), ⟨hq.tr (q_eq.sI (by decide)), fun i hi => ?_⟩, ?_⟩
    · rw [q_I_u]
      by_cases q : i = x
      · rw [if_pos q]
      · rw [if_neg q]; exact g i (by omega)
    · rw [L_X12_laysSecrets_7]
      simp (disch := omega) only [q_ckt, q_lt, q_cI, q_cJ, q_cV, q_cP, q_xI, q_xV, q_xP, q_xJ, g_gk, g_ga, g_gw, g_gp, g_gq, g_P, g_J, q_I_s, q_I_n, q_I_k, nI_add, pk_sub, pk_mul, nI_clamp, n_lt0, n_0lt, n_eq0, n_lt, n_le, n_eq, n_m1, n_m2, n_m9, n_12, n_19, n_10, n_01, n_1n1, n_0n1, n_1n0, n_0n0, n_dI, n_m1lt, q_inb, n_nar, n_nar0, n_nar1, n_bool, Bool.false_eq_true, Bool.true_eq_false, if_true, if_false, ↓reduceIte, Nat.reduceAdd, Nat.reduceMul, Nat.reduceSub, Nat.reduceLT, Nat.reduceLeDiff, Nat.reduceEqDiff, Nat.reduceMod, Nat.reduceDiv, hx, q_R hpt]) (fun _ _ => rfl) (i := 0) (t := M1) (by omega) ⟨q_eq.rf _ _, fun i hi => absurd hi (by omega)⟩
  obtain ⟨M2, ⟨q2, g2⟩, e2⟩ := L
  have rs2 := rs1.tr (q_rs_eq q2 (by decide))
  have r2 := r_rl_rs h rs2
  obtain ⟨M3, S3, e3, rs3, -, j3, s3, b3⟩ := r_gsc (d := d + 9 - k_m K) hmn hT (k_m K) (a := []) (S := fun _ => 0) (by show 0 + k_m K = k_m K; omega) (fun i hi => absurd hi (by show ¬ i < 0; omega)) r2 (r_tt_rs ht rs2) (fun i hi => absurd hi (by show ¬ i < 0; omega)) (fun i hi => ⟨g2 i (by omega), show 0 < 128 by decide⟩)
  rw [show d + 9 - k_m K + 4 + k_m K = d + 13 by omega, show ([] : List Nat).length = 0 from rfl] at e3
  refine ⟨M3, S3, ?_, rs2.tr rs3, ?_, s3, fun i hi c hc => ?_⟩
  · rw [E_X12_laysSecrets]
    simp (disch := omega) only [q_ckt, q_lt, q_cI, q_cJ, q_cV, q_cP, q_xI, q_xV, q_xP, q_xJ, g_gk, g_ga, g_gw, g_gp, g_gq, g_P, g_J, q_I_s, q_I_n, q_I_k, nI_add, pk_sub, pk_mul, nI_clamp, n_lt0, n_0lt, n_eq0, n_lt, n_le, n_eq, n_m1, n_m2, n_m9, n_12, n_19, n_10, n_01, n_1n1, n_0n1, n_1n0, n_0n0, n_dI, n_m1lt, q_inb, n_nar, n_nar0, n_nar1, n_bool, Bool.false_eq_true, Bool.true_eq_false, if_true, if_false, ↓reduceIte, Nat.reduceAdd, Nat.reduceMul, Nat.reduceSub, Nat.reduceLT, Nat.reduceLeDiff, Nat.reduceEqDiff, Nat.reduceMod, Nat.reduceDiv, q_R h.1]
    rw [← e1, e2, L_X12_laysSecrets_7]
    simp (disch := omega) only [q_ckt, q_lt, q_cI, q_cJ, q_cV, q_cP, q_xI, q_xV, q_xP, q_xJ, g_gk, g_ga, g_gw, g_gp, g_gq, g_P, g_J, q_I_s, q_I_n, q_I_k, nI_add, pk_sub, pk_mul, nI_clamp, n_lt0, n_0lt, n_eq0, n_lt, n_le, n_eq, n_m1, n_m2, n_m9, n_12, n_19, n_10, n_01, n_1n1, n_0n1, n_1n0, n_0n0, n_dI, n_m1lt, q_inb, n_nar, n_nar0, n_nar1, n_bool, Bool.false_eq_true, Bool.true_eq_false, if_true, if_false, ↓reduceIte, Nat.reduceAdd, Nat.reduceMul, Nat.reduceSub, Nat.reduceLT, Nat.reduceLeDiff, Nat.reduceEqDiff, Nat.reduceMod, Nat.reduceDiv, q_R r2.1, e3]
  · rw [j3]
    have z : ir_J M2 412 46 = 0 := by
      show M2.2.1 412 46 = 0
      rw [q2.2, e1]
      exact s_Js
    rw [z, Int64.zero_add]
    rfl
  · rw [b3 i hi c hc]
    constructor
    · rintro (w | ⟨b, w⟩)
      · rw [Nat.zero_testBit] at w; exact nomatch w
      · exact ⟨b, w⟩
    · rintro ⟨b, w⟩
      exact Or.inr ⟨b, w⟩
end RG2
/-! what is sure, by bits -/
def k_sf (S g : Nat) : Int32 := k_on (k_f1 (fun x => decide (S = 2 ^ x)) g 0)
theorem n_sure : ∀ b, b < 256 → b.testBit 0 = false → ∀ g, g < 7 → (∀ v, v < 8 → g + 2 ≤ v → b.testBit v = false) → (if (k_oa (fun v => b.testBit v) 8).2 = 1 then (k_oa (fun v => b.testBit v) 8).1 else -1) = k_sf (b / 4 ||| (if b.testBit 1 = true then 64 else 0)) g := by decide +kernel
