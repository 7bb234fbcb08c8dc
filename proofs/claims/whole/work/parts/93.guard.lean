/-! guards -/
def k_gp (j l : Nat) : Nat := if l < j then j - 1 else j
def k_gw (K : Nat → Int32) (p j l : Nat) : Int32 := match k_pl (k_mov K l (k_gp j l)) p with
  | some y => k_wm K l (k_gp j l) y
  | none => 0
def k_gs (K : Nat → Int32) (p j x : Nat) (s : Option Nat × Int32) : Option Nat × Int32 := if x = p then s else match k_pl K x with
  | none => s
  | some l => match s.1 with
    | none => (some x, k_gw K p j l)
    | some _ => if s.2 < k_gw K p j l then (some x, k_gw K p j l) else s
def k_gu (K : Nat → Int32) (p j : Nat) : Nat → Option Nat × Int32
  | 0 => (none, nI 0)
  | x + 1 => k_gs K p j x (k_gu K p j x)
theorem k_gu_lt {K : Nat → Int32} {p j : Nat} : ∀ x {y}, (k_gu K p j x).1 = some y → y < x
  | 0, _, h => nomatch h
  | x + 1, y, h => by
    have ih := @k_gu_lt K p j x
    change (k_gs K p j x (k_gu K p j x)).1 = some y at h
    unfold k_gs at h
    split at h
    · have := ih h; omega
    · split at h
      · have := ih h; omega
      · split at h
        · cases h; omega
        · split at h
          · cases h; omega
          · have := ih h; omega
section GD
variable {M : ir_M} {K : Nat → Int32} {d : Nat}
theorem c_wgb (h : c_rl M 12 K) {p q j l : Nat} (hp : p < k_n K) (hq : q < k_n K) (hj : k_pl K p = some j) (hl : k_pl K q = some l) : ∃ M', m_X11_worthGuardedBy (d + 6) 1 (nI p) (nI q) M = ir_oI (k_gw K p j l) M' ∧ q_eq [91, 92, 93, 94, 95, 96, 9, 117, 118, 120] M M' := by
  have hb := k_bds h.2.2.1
  obtain ⟨hjm, hqj⟩ := k_pl_some hj
  obtain ⟨hlm, hql⟩ := k_pl_some hl
  have him : k_gp j l < k_m K := by unfold k_gp; split <;> omega
  obtain ⟨M2, e2, t2, c2, r2⟩ := c_trial (d := d + 4) h
  obtain ⟨M3, e3, t3, r3⟩ := c_tsh (d := d + 4) r2 hlm him
  obtain ⟨ok3, m3, -⟩ := k_mov_ok h.2.2.1 hlm him
  obtain ⟨M4, e4, t4, b4, f4⟩ := c_run (d := d) r3
  have r4 := c_rl_eq r3 t4 (by decide)
  obtain ⟨y, hy, ey⟩ := k_pl_mov h.2.2.1 hlm him hj
  have v1 := c_wa (d := d + 3) r4 (show y < k_m (k_mov K l (k_gp j l)) by omega) (f4 _ (by omega)) (k_td_gd ok3 (by omega))
  have eg : k_gw K p j l = k_wm K l (k_gp j l) y := by unfold k_gw; rw [ey]
  have pl4 := c_pl (d := d + 4) r4 (show p < 2 ^ 31 by omega)
  rw [ey] at pl4
  have fin : v_X11_worthGuardedBy_49 (d + 5) 1 (nI p) 91 (nI l) (nI (k_gp j l)) M2 = ir_oI (k_gw K p j l) M4 := by
    rw [L_X11_worthGuardedBy_49, eg]
    simp (disch := omega) only [q_ckt, q_lt, q_cI, q_cJ, q_cV, q_cP, q_xI, q_xV, q_xP, q_xJ, g_gk, g_ga, g_gw, g_gp, g_gq, g_P, g_J, q_I_s, q_I_n, q_I_k, nI_add, pk_sub, pk_mul, nI_clamp, n_lt0, n_0lt, n_eq0, n_lt, n_le, n_eq, n_m1, n_m2, n_m9, n_12, n_19, n_10, n_01, n_1n1, n_0n1, n_1n0, n_0n0, n_dI, n_m1lt, q_inb, n_nar, n_nar0, n_nar1, n_bool, Bool.false_eq_true, Bool.true_eq_false, if_true, if_false, ↓reduceIte, Nat.reduceAdd, Nat.reduceMul, Nat.reduceSub, Nat.reduceLT, Nat.reduceLeDiff, Nat.reduceEqDiff, Nat.reduceMod, Nat.reduceDiv, q_S c2.1 (a := 91) (by decide), e3, q_W r3.1, q_F r3.1, e4, q_W r4.1, q_F r4.1, q_S r4.1 (a := 91) (by decide), pl4, k_on, v1]
    rfl
  refine ⟨M4, ?_, ((t2.sub (by decide)).tr (t3.sub (by decide))).tr (t4.sub (by decide))⟩
  rw [E_X11_worthGuardedBy]
  simp (disch := omega) only [q_ckt, q_lt, q_cI, q_cJ, q_cV, q_cP, q_xI, q_xV, q_xP, q_xJ, g_gk, g_ga, g_gw, g_gp, g_gq, g_P, g_J, q_I_s, q_I_n, q_I_k, nI_add, pk_sub, pk_mul, nI_clamp, n_lt0, n_0lt, n_eq0, n_lt, n_le, n_eq, n_m1, n_m2, n_m9, n_12, n_19, n_10, n_01, n_1n1, n_0n1, n_1n0, n_0n0, n_dI, n_m1lt, q_inb, n_nar, n_nar0, n_nar1, n_bool, Bool.false_eq_true, Bool.true_eq_false, if_true, if_false, ↓reduceIte, Nat.reduceAdd, Nat.reduceMul, Nat.reduceSub, Nat.reduceLT, Nat.reduceLeDiff, Nat.reduceEqDiff, Nat.reduceMod, Nat.reduceDiv, q_W h.1, q_S h.1 (a := 12) (by decide), q_S h.1 (a := 91) (by decide), c_pl h (show p < 2 ^ 31 by omega), c_pl h (show q < 2 ^ 31 by omega), hj, hl, k_on, e2, q_W c2.1]
  by_cases q : l < j
  · simp (disch := omega) only [q_ckt, q_lt, q_cI, q_cJ, q_cV, q_cP, q_xI, q_xV, q_xP, q_xJ, g_gk, g_ga, g_gw, g_gp, g_gq, g_P, g_J, q_I_s, q_I_n, q_I_k, nI_add, pk_sub, pk_mul, nI_clamp, n_lt0, n_0lt, n_eq0, n_lt, n_le, n_eq, n_m1, n_m2, n_m9, n_12, n_19, n_10, n_01, n_1n1, n_0n1, n_1n0, n_0n0, n_dI, n_m1lt, q_inb, n_nar, n_nar0, n_nar1, n_bool, Bool.false_eq_true, Bool.true_eq_false, if_true, if_false, ↓reduceIte, Nat.reduceAdd, Nat.reduceMul, Nat.reduceSub, Nat.reduceLT, Nat.reduceLeDiff, Nat.reduceEqDiff, Nat.reduceMod, Nat.reduceDiv, q]
    rw [show k_gp j l = j - 1 from if_pos q] at fin
    exact fin
  · simp (disch := omega) only [q_ckt, q_lt, q_cI, q_cJ, q_cV, q_cP, q_xI, q_xV, q_xP, q_xJ, g_gk, g_ga, g_gw, g_gp, g_gq, g_P, g_J, q_I_s, q_I_n, q_I_k, nI_add, pk_sub, pk_mul, nI_clamp, n_lt0, n_0lt, n_eq0, n_lt, n_le, n_eq, n_m1, n_m2, n_m9, n_12, n_19, n_10, n_01, n_1n1, n_0n1, n_1n0, n_0n0, n_dI, n_m1lt, q_inb, n_nar, n_nar0, n_nar1, n_bool, Bool.false_eq_true, Bool.true_eq_false, if_true, if_false, ↓reduceIte, Nat.reduceAdd, Nat.reduceMul, Nat.reduceSub, Nat.reduceLT, Nat.reduceLeDiff, Nat.reduceEqDiff, Nat.reduceMod, Nat.reduceDiv, q]
    rw [show k_gp j l = j from if_neg q] at fin
    exact fin
end GD
section GE
variable {L : Nat} {xs : Nat → Int32}
theorem k_on_some {x : Nat} (hx : x < 2 ^ 31) : (k_on (some x) = -1) = False := n_m1 hx
theorem S_guard (a b : Int32) : q_St L xs (q_Iv L xs) (m_L_guard 200 1 a b 436) (m_X12_guard 200 412 a b) := by
  refine q_St_mk (x := m_X11_guard 199 1 a b) (fun M => E_L_guard 199 1 a b 436 M) fun M hp hI => ?_
  have hc := c_I_c hp hI.1
  have hr := c_I_r hp hI.1
  generalize M.1 413 = K at hc hr
  have hb := k_bds hc.2.2.1
  by_cases ha : k_rng a (k_n K)
  · obtain ⟨p, hpn, rfl⟩ := k_rng_of ha (by omega)
    cases e : k_pl K p with
    | none =>
      refine Or.inr ⟨2, 2, by omega, by omega, ?_, fun _ => rfl, fun M' s => ⟨nI 0, _, ?_, q_st_4 s.1.1 (k := 4) (v := nI 2) rfl, rfl, q_I_s⟩⟩
      · rw [E_X11_guard 198]
        simp (disch := omega) only [q_ckt, q_lt, q_cI, q_cJ, q_cV, q_cP, q_xI, q_xV, q_xP, q_xJ, g_gk, g_ga, g_gw, g_gp, g_gq, g_P, g_J, q_I_s, q_I_n, q_I_k, nI_add, pk_sub, pk_mul, nI_clamp, n_lt0, n_0lt, n_eq0, n_lt, n_le, n_eq, n_m1, n_m2, n_m9, n_12, n_19, n_10, n_01, n_1n1, n_0n1, n_1n0, n_0n0, n_dI, n_m1lt, q_inb, n_nar, n_nar0, n_nar1, n_bool, Bool.false_eq_true, Bool.true_eq_false, if_true, if_false, ↓reduceIte, Nat.reduceAdd, Nat.reduceMul, Nat.reduceSub, Nat.reduceLT, Nat.reduceLeDiff, Nat.reduceEqDiff, Nat.reduceMod, Nat.reduceDiv, q_W hp, c_np hc, ha, c_ns hc hpn, e]
      · have hr' := q_st_r s hr
        rw [E_X12_guard 199]
        simp (disch := omega) only [q_ckt, q_lt, q_cI, q_cJ, q_cV, q_cP, q_xI, q_xV, q_xP, q_xJ, g_gk, g_ga, g_gw, g_gp, g_gq, g_P, g_J, q_I_s, q_I_n, q_I_k, nI_add, pk_sub, pk_mul, nI_clamp, n_lt0, n_0lt, n_eq0, n_lt, n_le, n_eq, n_m1, n_m2, n_m9, n_12, n_19, n_10, n_01, n_1n1, n_0n1, n_1n0, n_0n0, n_dI, n_m1lt, q_inb, n_nar, n_nar0, n_nar1, n_bool, Bool.false_eq_true, Bool.true_eq_false, if_true, if_false, ↓reduceIte, Nat.reduceAdd, Nat.reduceMul, Nat.reduceSub, Nat.reduceLT, Nat.reduceLeDiff, Nat.reduceEqDiff, Nat.reduceMod, Nat.reduceDiv, q_R hr'.1, r_bf1 hr' hpn, e, L_X12_guard_31]
    | some j =>
      obtain ⟨hjm, hqj⟩ := k_pl_some e
      by_cases hbk : k_rng b 2
      · obtain ⟨y, hy2, rfl⟩ := k_rng_of hbk (by omega)
        refine Or.inl ⟨if y = 0 then k_on (k_gu K p j (k_n K)).1 else (k_gu K p j (k_n K)).2, ?_, fun M' s => ?_⟩
        · have Lp := q_up (σ := ir_M) (V := fun x t => v_X11_guard_39 198 1 (nI p) (nI y) (k_on (k_gu K p j x).1) (k_gu K p j x).2 (nI x) t) (N := k_n K) (I := fun _ t => q_eq [91, 92, 93, 94, 95, 96, 9, 117, 118, 120] M t) (K := fun t => ir_oI (if y = 0 then k_on (k_gu K p j (k_n K)).1 else (k_gu K p j (k_n K)).2) t) (by
            intro x t hx hq
            have ct := q_st_c (q_st_eq hp hq (by decide)) hc
            have hlt := @k_gu_lt K p j x
            obtain ⟨s, es⟩ : ∃ s, s = k_gu K p j x := ⟨_, rfl⟩
            rw [show k_gu K p j (x + 1) = k_gs K p j x (k_gu K p j x) from rfl]
            rw [← es] at hlt ⊢
            unfold k_gs
            by_cases qx : x = p
            · refine ⟨t, hq, ?_⟩
              rw [if_pos qx, L_X11_guard_39]
              simp (disch := omega) only [q_ckt, q_lt, q_cI, q_cJ, q_cV, q_cP, q_xI, q_xV, q_xP, q_xJ, g_gk, g_ga, g_gw, g_gp, g_gq, g_P, g_J, q_I_s, q_I_n, q_I_k, nI_add, pk_sub, pk_mul, nI_clamp, n_lt0, n_0lt, n_eq0, n_lt, n_le, n_eq, n_m1, n_m2, n_m9, n_12, n_19, n_10, n_01, n_1n1, n_0n1, n_1n0, n_0n0, n_dI, n_m1lt, q_inb, n_nar, n_nar0, n_nar1, n_bool, Bool.false_eq_true, Bool.true_eq_false, if_true, if_false, ↓reduceIte, Nat.reduceAdd, Nat.reduceMul, Nat.reduceSub, Nat.reduceLT, Nat.reduceLeDiff, Nat.reduceEqDiff, Nat.reduceMod, Nat.reduceDiv, q_W ct.1, q_T ct.1, c_use ct, hx, qx, hpn]
            · rw [if_neg qx]
              cases el : k_pl K x with
              | none =>
                refine ⟨t, hq, ?_⟩
                rw [L_X11_guard_39]
                simp (disch := omega) only [q_ckt, q_lt, q_cI, q_cJ, q_cV, q_cP, q_xI, q_xV, q_xP, q_xJ, g_gk, g_ga, g_gw, g_gp, g_gq, g_P, g_J, q_I_s, q_I_n, q_I_k, nI_add, pk_sub, pk_mul, nI_clamp, n_lt0, n_0lt, n_eq0, n_lt, n_le, n_eq, n_m1, n_m2, n_m9, n_12, n_19, n_10, n_01, n_1n1, n_0n1, n_1n0, n_0n0, n_dI, n_m1lt, q_inb, n_nar, n_nar0, n_nar1, n_bool, Bool.false_eq_true, Bool.true_eq_false, if_true, if_false, ↓reduceIte, Nat.reduceAdd, Nat.reduceMul, Nat.reduceSub, Nat.reduceLT, Nat.reduceLeDiff, Nat.reduceEqDiff, Nat.reduceMod, Nat.reduceDiv, q_W ct.1, q_T ct.1, c_use ct, hx, qx, q_S ct.1 (a := 12) (by decide), c_pl ct (show x < 2 ^ 31 by omega), el, k_on]
              | some l =>
                obtain ⟨t2, e2, q2⟩ := c_wgb (d := 192) ct hpn hx e el
                have hlm := (k_pl_some el).1
                refine ⟨t2, hq.tr q2, ?_⟩
                rw [L_X11_guard_39]
                simp (disch := omega) only [q_ckt, q_lt, q_cI, q_cJ, q_cV, q_cP, q_xI, q_xV, q_xP, q_xJ, g_gk, g_ga, g_gw, g_gp, g_gq, g_P, g_J, q_I_s, q_I_n, q_I_k, nI_add, pk_sub, pk_mul, nI_clamp, n_lt0, n_0lt, n_eq0, n_lt, n_le, n_eq, n_m1, n_m2, n_m9, n_12, n_19, n_10, n_01, n_1n1, n_0n1, n_1n0, n_0n0, n_dI, n_m1lt, q_inb, n_nar, n_nar0, n_nar1, n_bool, Bool.false_eq_true, Bool.true_eq_false, if_true, if_false, ↓reduceIte, Nat.reduceAdd, Nat.reduceMul, Nat.reduceSub, Nat.reduceLT, Nat.reduceLeDiff, Nat.reduceEqDiff, Nat.reduceMod, Nat.reduceDiv, q_W ct.1, q_T ct.1, c_use ct, hx, qx, q_S ct.1 (a := 12) (by decide), c_pl ct (show x < 2 ^ 31 by omega), el, k_on, e2]
                cases es1 : s.1 with
                | none => simp (disch := omega) only [q_ckt, q_lt, q_cI, q_cJ, q_cV, q_cP, q_xI, q_xV, q_xP, q_xJ, g_gk, g_ga, g_gw, g_gp, g_gq, g_P, g_J, q_I_s, q_I_n, q_I_k, nI_add, pk_sub, pk_mul, nI_clamp, n_lt0, n_0lt, n_eq0, n_lt, n_le, n_eq, n_m1, n_m2, n_m9, n_12, n_19, n_10, n_01, n_1n1, n_0n1, n_1n0, n_0n0, n_dI, n_m1lt, q_inb, n_nar, n_nar0, n_nar1, n_bool, Bool.false_eq_true, Bool.true_eq_false, if_true, if_false, ↓reduceIte, Nat.reduceAdd, Nat.reduceMul, Nat.reduceSub, Nat.reduceLT, Nat.reduceLeDiff, Nat.reduceEqDiff, Nat.reduceMod, Nat.reduceDiv, k_on]
                | some z =>
                  have := hlt es1
                  simp (disch := omega) only [q_ckt, q_lt, q_cI, q_cJ, q_cV, q_cP, q_xI, q_xV, q_xP, q_xJ, g_gk, g_ga, g_gw, g_gp, g_gq, g_P, g_J, q_I_s, q_I_n, q_I_k, nI_add, pk_sub, pk_mul, nI_clamp, n_lt0, n_0lt, n_eq0, n_lt, n_le, n_eq, n_m1, n_m2, n_m9, n_12, n_19, n_10, n_01, n_1n1, n_0n1, n_1n0, n_0n0, n_dI, n_m1lt, q_inb, n_nar, n_nar0, n_nar1, n_bool, Bool.false_eq_true, Bool.true_eq_false, if_true, if_false, ↓reduceIte, Nat.reduceAdd, Nat.reduceMul, Nat.reduceSub, Nat.reduceLT, Nat.reduceLeDiff, Nat.reduceEqDiff, Nat.reduceMod, Nat.reduceDiv, k_on]
                  by_cases qc : s.2 < k_gw K p j l
                  · rw [if_pos qc, if_pos qc]
                  · rw [if_neg qc, if_neg qc, es1]) (by
            intro t hq
            have ct := q_st_c (q_st_eq hp hq (by decide)) hc
            rw [L_X11_guard_39]
            simp (disch := omega) only [q_ckt, q_lt, q_cI, q_cJ, q_cV, q_cP, q_xI, q_xV, q_xP, q_xJ, g_gk, g_ga, g_gw, g_gp, g_gq, g_P, g_J, q_I_s, q_I_n, q_I_k, nI_add, pk_sub, pk_mul, nI_clamp, n_lt0, n_0lt, n_eq0, n_lt, n_le, n_eq, n_m1, n_m2, n_m9, n_12, n_19, n_10, n_01, n_1n1, n_0n1, n_1n0, n_0n0, n_dI, n_m1lt, q_inb, n_nar, n_nar0, n_nar1, n_bool, Bool.false_eq_true, Bool.true_eq_false, if_true, if_false, ↓reduceIte, Nat.reduceAdd, Nat.reduceMul, Nat.reduceSub, Nat.reduceLT, Nat.reduceLeDiff, Nat.reduceEqDiff, Nat.reduceMod, Nat.reduceDiv, q_W ct.1, q_T ct.1, c_use ct, Nat.lt_irrefl]
            split <;> rfl) (i := 0) (t := M) (by omega) (q_eq.rf _ _)
          obtain ⟨t, ht, ee⟩ := Lp
          refine ⟨t, ?_, q_st_eq hp ht (by decide)⟩
          rw [E_X11_guard 198]
          simp (disch := omega) only [q_ckt, q_lt, q_cI, q_cJ, q_cV, q_cP, q_xI, q_xV, q_xP, q_xJ, g_gk, g_ga, g_gw, g_gp, g_gq, g_P, g_J, q_I_s, q_I_n, q_I_k, nI_add, pk_sub, pk_mul, nI_clamp, n_lt0, n_0lt, n_eq0, n_lt, n_le, n_eq, n_m1, n_m2, n_m9, n_12, n_19, n_10, n_01, n_1n1, n_0n1, n_1n0, n_0n0, n_dI, n_m1lt, q_inb, n_nar, n_nar0, n_nar1, n_bool, Bool.false_eq_true, Bool.true_eq_false, if_true, if_false, ↓reduceIte, Nat.reduceAdd, Nat.reduceMul, Nat.reduceSub, Nat.reduceLT, Nat.reduceLeDiff, Nat.reduceEqDiff, Nat.reduceMod, Nat.reduceDiv, q_W hp, c_np hc, ha, c_ns hc hpn, e, show ¬ 1 < y by omega]
          exact ee
        · have hr' := q_st_r s hr
          have h4 := r_4 (v := nI 0) hr'
          have Lp := q_up (σ := ir_M) (V := fun x t => v_X12_guardOf_9 198 412 (nI p) (k_on (k_gu K p j x).1) (nI x) t) (N := k_n K) (I := fun x t => q_st 0 (ir_sI M' 412 4 (nI 0)) t ∧ t.2 = M'.2 ∧ ir_I t 412 38 = (k_gu K p j x).2 ∧ ir_I t 412 4 = nI 0) (K := fun t => ir_oI (k_on (k_gu K p j (k_n K)).1) t) (by
            rintro x t hx ⟨hq, hq2, hq3, hq4⟩
            have ct := q_st_r hq h4
            have hlt := @k_gu_lt K p j x
            obtain ⟨s, es⟩ : ∃ s, s = k_gu K p j x := ⟨_, rfl⟩
            rw [show k_gu K p j (x + 1) = k_gs K p j x (k_gu K p j x) from rfl]
            rw [← es] at hlt hq3 ⊢
            unfold k_gs
            by_cases qx : x = p
            · refine ⟨t, ⟨hq, hq2, by rw [if_pos qx]; exact hq3, hq4⟩, ?_⟩
              rw [if_pos qx, L_X12_guardOf_9]
              simp (disch := omega) only [q_ckt, q_lt, q_cI, q_cJ, q_cV, q_cP, q_xI, q_xV, q_xP, q_xJ, g_gk, g_ga, g_gw, g_gp, g_gq, g_P, g_J, q_I_s, q_I_n, q_I_k, nI_add, pk_sub, pk_mul, nI_clamp, n_lt0, n_0lt, n_eq0, n_lt, n_le, n_eq, n_m1, n_m2, n_m9, n_12, n_19, n_10, n_01, n_1n1, n_0n1, n_1n0, n_0n0, n_dI, n_m1lt, q_inb, n_nar, n_nar0, n_nar1, n_bool, Bool.false_eq_true, Bool.true_eq_false, if_true, if_false, ↓reduceIte, Nat.reduceAdd, Nat.reduceMul, Nat.reduceSub, Nat.reduceLT, Nat.reduceLeDiff, Nat.reduceEqDiff, Nat.reduceMod, Nat.reduceDiv, q_R ct.1, r_pe ct, hx, qx, hpn]
            · rw [if_neg qx]
              cases el : k_pl K x with
              | none =>
                refine ⟨t, ⟨hq, hq2, hq3, hq4⟩, ?_⟩
                rw [L_X12_guardOf_9]
                simp (disch := omega) only [q_ckt, q_lt, q_cI, q_cJ, q_cV, q_cP, q_xI, q_xV, q_xP, q_xJ, g_gk, g_ga, g_gw, g_gp, g_gq, g_P, g_J, q_I_s, q_I_n, q_I_k, nI_add, pk_sub, pk_mul, nI_clamp, n_lt0, n_0lt, n_eq0, n_lt, n_le, n_eq, n_m1, n_m2, n_m9, n_12, n_19, n_10, n_01, n_1n1, n_0n1, n_1n0, n_0n0, n_dI, n_m1lt, q_inb, n_nar, n_nar0, n_nar1, n_bool, Bool.false_eq_true, Bool.true_eq_false, if_true, if_false, ↓reduceIte, Nat.reduceAdd, Nat.reduceMul, Nat.reduceSub, Nat.reduceLT, Nat.reduceLeDiff, Nat.reduceEqDiff, Nat.reduceMod, Nat.reduceDiv, q_R ct.1, r_pe ct, hx, qx, r_placeOf ct (show x < 2 ^ 31 by omega), el, k_on]
              | some l =>
                obtain ⟨hlm, hql⟩ := k_pl_some el
                have him : k_gp j l < k_m K := by unfold k_gp; split <;> omega
                obtain ⟨z, hz, ez⟩ := k_pl_mov ct.2.1 hlm him e
                obtain ⟨t2, e2, q2⟩ := r_fallsIf (d := 190) ct hpn hlm him ez
                rw [hql] at e2
                have eg : k_gw K p j l = k_wm K l (k_gp j l) z := by unfold k_gw; rw [ez]
                rw [← eg] at e2
                have ct2 := r_rl_eq ct q2 (by decide)
                have s2 := q_st_eq ct.1 q2 (by decide)
                have f38 : ir_I t2 412 38 = s.2 := (q_I_eq q2 (by decide) 38).trans hq3
                have f4 : ir_I t2 412 4 = nI 0 := (q_I_eq q2 (by decide) 4).trans hq4
                have m2 : t2.2 = M'.2 := q2.2.trans hq2
                have s3 := q_st_4 ct2.1 (k := 38) (v := k_gw K p j l) rfl
                have go : v_X12_guardOf_9 198 412 (nI p) (k_on s.1) (nI x) t = v_X12_guardOf_57 198 412 (nI p) (k_on s.1) (nI x) (nI j) (nI (j - k_gp j l)) t := by
                  rw [L_X12_guardOf_9]
                  simp (disch := omega) only [q_ckt, q_lt, q_cI, q_cJ, q_cV, q_cP, q_xI, q_xV, q_xP, q_xJ, g_gk, g_ga, g_gw, g_gp, g_gq, g_P, g_J, q_I_s, q_I_n, q_I_k, nI_add, pk_sub, pk_mul, nI_clamp, n_lt0, n_0lt, n_eq0, n_lt, n_le, n_eq, n_m1, n_m2, n_m9, n_12, n_19, n_10, n_01, n_1n1, n_0n1, n_1n0, n_0n0, n_dI, n_m1lt, q_inb, n_nar, n_nar0, n_nar1, n_bool, Bool.false_eq_true, Bool.true_eq_false, if_true, if_false, ↓reduceIte, Nat.reduceAdd, Nat.reduceMul, Nat.reduceSub, Nat.reduceLT, Nat.reduceLeDiff, Nat.reduceEqDiff, Nat.reduceMod, Nat.reduceDiv, q_R ct.1, r_pe ct, hx, qx, r_placeOf ct (show x < 2 ^ 31 by omega), r_placeOf ct (show p < 2 ^ 31 by omega), e, el, k_on]
                  by_cases ql : l < j
                  · simp (disch := omega) only [q_ckt, q_lt, q_cI, q_cJ, q_cV, q_cP, q_xI, q_xV, q_xP, q_xJ, g_gk, g_ga, g_gw, g_gp, g_gq, g_P, g_J, q_I_s, q_I_n, q_I_k, nI_add, pk_sub, pk_mul, nI_clamp, n_lt0, n_0lt, n_eq0, n_lt, n_le, n_eq, n_m1, n_m2, n_m9, n_12, n_19, n_10, n_01, n_1n1, n_0n1, n_1n0, n_0n0, n_dI, n_m1lt, q_inb, n_nar, n_nar0, n_nar1, n_bool, Bool.false_eq_true, Bool.true_eq_false, if_true, if_false, ↓reduceIte, Nat.reduceAdd, Nat.reduceMul, Nat.reduceSub, Nat.reduceLT, Nat.reduceLeDiff, Nat.reduceEqDiff, Nat.reduceMod, Nat.reduceDiv, ql]
                    rw [show j - k_gp j l = 1 by unfold k_gp; rw [if_pos ql]; omega]
                  · simp (disch := omega) only [q_ckt, q_lt, q_cI, q_cJ, q_cV, q_cP, q_xI, q_xV, q_xP, q_xJ, g_gk, g_ga, g_gw, g_gp, g_gq, g_P, g_J, q_I_s, q_I_n, q_I_k, nI_add, pk_sub, pk_mul, nI_clamp, n_lt0, n_0lt, n_eq0, n_lt, n_le, n_eq, n_m1, n_m2, n_m9, n_12, n_19, n_10, n_01, n_1n1, n_0n1, n_1n0, n_0n0, n_dI, n_m1lt, q_inb, n_nar, n_nar0, n_nar1, n_bool, Bool.false_eq_true, Bool.true_eq_false, if_true, if_false, ↓reduceIte, Nat.reduceAdd, Nat.reduceMul, Nat.reduceSub, Nat.reduceLT, Nat.reduceLeDiff, Nat.reduceEqDiff, Nat.reduceMod, Nat.reduceDiv, ql]
                    rw [show j - k_gp j l = 0 by unfold k_gp; rw [if_neg ql]; omega]
                have hle : k_gp j l ≤ j := by unfold k_gp; split <;> omega
                have e5 : nI j - nI (j - k_gp j l) = nI (k_gp j l) := by rw [pk_sub (by omega), show j - (j - k_gp j l) = k_gp j l by omega]
                rw [go, L_X12_guardOf_57, e5]
                cases es1 : s.1 with
                | none =>
                  refine ⟨_, ⟨(hq.tr s2).tr s3, m2, q_I_s, by rw [q_I_k (by decide)]; exact f4⟩, ?_⟩
                  simp (disch := omega) only [q_ckt, q_lt, q_cI, q_cJ, q_cV, q_cP, q_xI, q_xV, q_xP, q_xJ, g_gk, g_ga, g_gw, g_gp, g_gq, g_P, g_J, q_I_s, q_I_n, q_I_k, nI_add, pk_sub, pk_mul, nI_clamp, n_lt0, n_0lt, n_eq0, n_lt, n_le, n_eq, n_m1, n_m2, n_m9, n_12, n_19, n_10, n_01, n_1n1, n_0n1, n_1n0, n_0n0, n_dI, n_m1lt, q_inb, n_nar, n_nar0, n_nar1, n_bool, Bool.false_eq_true, Bool.true_eq_false, if_true, if_false, ↓reduceIte, Nat.reduceAdd, Nat.reduceMul, Nat.reduceSub, Nat.reduceLT, Nat.reduceLeDiff, Nat.reduceEqDiff, Nat.reduceMod, Nat.reduceDiv, q_R ct.1, e2, k_on, L_X12_guardOf_87, q_R ct2.1]
                | some w =>
                  have := hlt es1
                  by_cases qc : s.2 < k_gw K p j l
                  · refine ⟨_, ⟨(hq.tr s2).tr s3, m2, by dsimp only; rw [if_pos qc]; exact q_I_s, by rw [q_I_k (by decide)]; exact f4⟩, ?_⟩
                    simp (disch := omega) only [q_ckt, q_lt, q_cI, q_cJ, q_cV, q_cP, q_xI, q_xV, q_xP, q_xJ, g_gk, g_ga, g_gw, g_gp, g_gq, g_P, g_J, q_I_s, q_I_n, q_I_k, nI_add, pk_sub, pk_mul, nI_clamp, n_lt0, n_0lt, n_eq0, n_lt, n_le, n_eq, n_m1, n_m2, n_m9, n_12, n_19, n_10, n_01, n_1n1, n_0n1, n_1n0, n_0n0, n_dI, n_m1lt, q_inb, n_nar, n_nar0, n_nar1, n_bool, Bool.false_eq_true, Bool.true_eq_false, if_true, if_false, ↓reduceIte, Nat.reduceAdd, Nat.reduceMul, Nat.reduceSub, Nat.reduceLT, Nat.reduceLeDiff, Nat.reduceEqDiff, Nat.reduceMod, Nat.reduceDiv, q_R ct.1, e2, k_on, q_R ct2.1, f38, qc, L_X12_guardOf_87]
                  · refine ⟨t2, ⟨hq.tr s2, m2, by dsimp only; rw [if_neg qc]; exact f38, f4⟩, ?_⟩
                    simp (disch := omega) only [q_ckt, q_lt, q_cI, q_cJ, q_cV, q_cP, q_xI, q_xV, q_xP, q_xJ, g_gk, g_ga, g_gw, g_gp, g_gq, g_P, g_J, q_I_s, q_I_n, q_I_k, nI_add, pk_sub, pk_mul, nI_clamp, n_lt0, n_0lt, n_eq0, n_lt, n_le, n_eq, n_m1, n_m2, n_m9, n_12, n_19, n_10, n_01, n_1n1, n_0n1, n_1n0, n_0n0, n_dI, n_m1lt, q_inb, n_nar, n_nar0, n_nar1, n_bool, Bool.false_eq_true, Bool.true_eq_false, if_true, if_false, ↓reduceIte, Nat.reduceAdd, Nat.reduceMul, Nat.reduceSub, Nat.reduceLT, Nat.reduceLeDiff, Nat.reduceEqDiff, Nat.reduceMod, Nat.reduceDiv, q_R ct.1, e2, k_on, q_R ct2.1, f38, qc, es1]) (by
            rintro t ⟨hq, hq2, hq3, hq4⟩
            have ct := q_st_r hq h4
            rw [L_X12_guardOf_9]
            simp (disch := omega) only [q_ckt, q_lt, q_cI, q_cJ, q_cV, q_cP, q_xI, q_xV, q_xP, q_xJ, g_gk, g_ga, g_gw, g_gp, g_gq, g_P, g_J, q_I_s, q_I_n, q_I_k, nI_add, pk_sub, pk_mul, nI_clamp, n_lt0, n_0lt, n_eq0, n_lt, n_le, n_eq, n_m1, n_m2, n_m9, n_12, n_19, n_10, n_01, n_1n1, n_0n1, n_1n0, n_0n0, n_dI, n_m1lt, q_inb, n_nar, n_nar0, n_nar1, n_bool, Bool.false_eq_true, Bool.true_eq_false, if_true, if_false, ↓reduceIte, Nat.reduceAdd, Nat.reduceMul, Nat.reduceSub, Nat.reduceLT, Nat.reduceLeDiff, Nat.reduceEqDiff, Nat.reduceMod, Nat.reduceDiv, q_R ct.1, r_pe ct, Nat.lt_irrefl]) (i := 0) (t := ir_sI (ir_sI M' 412 4 (nI 0)) 412 38 (nI 0)) (by omega) ⟨q_st_4 h4.1 rfl, rfl, q_I_s, by rw [q_I_k (by decide), q_I_s]⟩
          obtain ⟨t, ⟨ht, hq2, ht3, ht4⟩, ee⟩ := Lp
          have EE : m_X12_guardOf 199 412 (nI p) (ir_sI M' 412 4 (nI 0)) = ir_oI (k_on (k_gu K p j (k_n K)).1) t := by
            rw [E_X12_guardOf 198]
            simp (disch := omega) only [q_ckt, q_lt, q_cI, q_cJ, q_cV, q_cP, q_xI, q_xV, q_xP, q_xJ, g_gk, g_ga, g_gw, g_gp, g_gq, g_P, g_J, q_I_s, q_I_n, q_I_k, nI_add, pk_sub, pk_mul, nI_clamp, n_lt0, n_0lt, n_eq0, n_lt, n_le, n_eq, n_m1, n_m2, n_m9, n_12, n_19, n_10, n_01, n_1n1, n_0n1, n_1n0, n_0n0, n_dI, n_m1lt, q_inb, n_nar, n_nar0, n_nar1, n_bool, Bool.false_eq_true, Bool.true_eq_false, if_true, if_false, ↓reduceIte, Nat.reduceAdd, Nat.reduceMul, Nat.reduceSub, Nat.reduceLT, Nat.reduceLeDiff, Nat.reduceEqDiff, Nat.reduceMod, Nat.reduceDiv, q_R hr'.1]
            exact ee
          have ct := q_st_r ht h4
          refine ⟨t, ?_, (q_st_4 hr'.1 rfl).tr ht, by rw [hq2], ht4⟩
          rw [E_X12_guard 199]
          simp (disch := omega) only [q_ckt, q_lt, q_cI, q_cJ, q_cV, q_cP, q_xI, q_xV, q_xP, q_xJ, g_gk, g_ga, g_gw, g_gp, g_gq, g_P, g_J, q_I_s, q_I_n, q_I_k, nI_add, pk_sub, pk_mul, nI_clamp, n_lt0, n_0lt, n_eq0, n_lt, n_le, n_eq, n_m1, n_m2, n_m9, n_12, n_19, n_10, n_01, n_1n1, n_0n1, n_1n0, n_0n0, n_dI, n_m1lt, q_inb, n_nar, n_nar0, n_nar1, n_bool, Bool.false_eq_true, Bool.true_eq_false, if_true, if_false, ↓reduceIte, Nat.reduceAdd, Nat.reduceMul, Nat.reduceSub, Nat.reduceLT, Nat.reduceLeDiff, Nat.reduceEqDiff, Nat.reduceMod, Nat.reduceDiv, q_R hr'.1, r_bf1 hr' hpn, e, r_within, k_wir (c := 1) (n := 1) (by decide +kernel), hbk, L_X12_guard_31, EE, q_R ct.1, ht3]
          by_cases qy : y = 0
          · simp (disch := omega) only [q_ckt, q_lt, q_cI, q_cJ, q_cV, q_cP, q_xI, q_xV, q_xP, q_xJ, g_gk, g_ga, g_gw, g_gp, g_gq, g_P, g_J, q_I_s, q_I_n, q_I_k, nI_add, pk_sub, pk_mul, nI_clamp, n_lt0, n_0lt, n_eq0, n_lt, n_le, n_eq, n_m1, n_m2, n_m9, n_12, n_19, n_10, n_01, n_1n1, n_0n1, n_1n0, n_0n0, n_dI, n_m1lt, q_inb, n_nar, n_nar0, n_nar1, n_bool, Bool.false_eq_true, Bool.true_eq_false, if_true, if_false, ↓reduceIte, Nat.reduceAdd, Nat.reduceMul, Nat.reduceSub, Nat.reduceLT, Nat.reduceLeDiff, Nat.reduceEqDiff, Nat.reduceMod, Nat.reduceDiv, qy]
          · simp (disch := omega) only [q_ckt, q_lt, q_cI, q_cJ, q_cV, q_cP, q_xI, q_xV, q_xP, q_xJ, g_gk, g_ga, g_gw, g_gp, g_gq, g_P, g_J, q_I_s, q_I_n, q_I_k, nI_add, pk_sub, pk_mul, nI_clamp, n_lt0, n_0lt, n_eq0, n_lt, n_le, n_eq, n_m1, n_m2, n_m9, n_12, n_19, n_10, n_01, n_1n1, n_0n1, n_1n0, n_0n0, n_dI, n_m1lt, q_inb, n_nar, n_nar0, n_nar1, n_bool, Bool.false_eq_true, Bool.true_eq_false, if_true, if_false, ↓reduceIte, Nat.reduceAdd, Nat.reduceMul, Nat.reduceSub, Nat.reduceLT, Nat.reduceLeDiff, Nat.reduceEqDiff, Nat.reduceMod, Nat.reduceDiv, qy]
      · refine Or.inr ⟨3, 3, by omega, by omega, ?_, fun _ => rfl, fun M' s => ⟨nI 0, ir_sI (ir_sI M' 412 4 (nI 0)) 412 4 (nI 3), ?_, (q_st_4 s.1.1 (k := 4) rfl).tr (q_st_4 (M := ir_sI M' 412 4 (nI 0)) s.1.1 (k := 4) (v := nI 3) rfl), rfl, q_I_s⟩⟩
        · rw [E_X11_guard 198]
          simp (disch := omega) only [q_ckt, q_lt, q_cI, q_cJ, q_cV, q_cP, q_xI, q_xV, q_xP, q_xJ, g_gk, g_ga, g_gw, g_gp, g_gq, g_P, g_J, q_I_s, q_I_n, q_I_k, nI_add, pk_sub, pk_mul, nI_clamp, n_lt0, n_0lt, n_eq0, n_lt, n_le, n_eq, n_m1, n_m2, n_m9, n_12, n_19, n_10, n_01, n_1n1, n_0n1, n_1n0, n_0n0, n_dI, n_m1lt, q_inb, n_nar, n_nar0, n_nar1, n_bool, Bool.false_eq_true, Bool.true_eq_false, if_true, if_false, ↓reduceIte, Nat.reduceAdd, Nat.reduceMul, Nat.reduceSub, Nat.reduceLT, Nat.reduceLeDiff, Nat.reduceEqDiff, Nat.reduceMod, Nat.reduceDiv, q_W hp, c_np hc, ha, c_ns hc hpn, e]
          rw [k_rng_d (n := 1) (by decide), if_neg hbk]
        · have hr' := q_st_r s hr
          rw [E_X12_guard 199]
          simp (disch := omega) only [q_ckt, q_lt, q_cI, q_cJ, q_cV, q_cP, q_xI, q_xV, q_xP, q_xJ, g_gk, g_ga, g_gw, g_gp, g_gq, g_P, g_J, q_I_s, q_I_n, q_I_k, nI_add, pk_sub, pk_mul, nI_clamp, n_lt0, n_0lt, n_eq0, n_lt, n_le, n_eq, n_m1, n_m2, n_m9, n_12, n_19, n_10, n_01, n_1n1, n_0n1, n_1n0, n_0n0, n_dI, n_m1lt, q_inb, n_nar, n_nar0, n_nar1, n_bool, Bool.false_eq_true, Bool.true_eq_false, if_true, if_false, ↓reduceIte, Nat.reduceAdd, Nat.reduceMul, Nat.reduceSub, Nat.reduceLT, Nat.reduceLeDiff, Nat.reduceEqDiff, Nat.reduceMod, Nat.reduceDiv, q_R hr'.1, r_bf1 hr' hpn, e, r_within, k_wir (c := 1) (n := 1) (by decide +kernel), hbk, L_X12_guard_31]
  · refine Or.inr ⟨1, 1, by omega, by omega, ?_, fun _ => rfl, fun M' s => ⟨nI 0, _, ?_, q_st_4 s.1.1 (k := 4) (v := nI 1) rfl, rfl, q_I_s⟩⟩
    · rw [E_X11_guard 198]
      simp (disch := omega) only [q_ckt, q_lt, q_cI, q_cJ, q_cV, q_cP, q_xI, q_xV, q_xP, q_xJ, g_gk, g_ga, g_gw, g_gp, g_gq, g_P, g_J, q_I_s, q_I_n, q_I_k, nI_add, pk_sub, pk_mul, nI_clamp, n_lt0, n_0lt, n_eq0, n_lt, n_le, n_eq, n_m1, n_m2, n_m9, n_12, n_19, n_10, n_01, n_1n1, n_0n1, n_1n0, n_0n0, n_dI, n_m1lt, q_inb, n_nar, n_nar0, n_nar1, n_bool, Bool.false_eq_true, Bool.true_eq_false, if_true, if_false, ↓reduceIte, Nat.reduceAdd, Nat.reduceMul, Nat.reduceSub, Nat.reduceLT, Nat.reduceLeDiff, Nat.reduceEqDiff, Nat.reduceMod, Nat.reduceDiv, q_W hp, c_np hc, ha]
    · have hr' := q_st_r s hr
      rw [E_X12_guard 199]
      simp (disch := omega) only [q_ckt, q_lt, q_cI, q_cJ, q_cV, q_cP, q_xI, q_xV, q_xP, q_xJ, g_gk, g_ga, g_gw, g_gp, g_gq, g_P, g_J, q_I_s, q_I_n, q_I_k, nI_add, pk_sub, pk_mul, nI_clamp, n_lt0, n_0lt, n_eq0, n_lt, n_le, n_eq, n_m1, n_m2, n_m9, n_12, n_19, n_10, n_01, n_1n1, n_0n1, n_1n0, n_0n0, n_dI, n_m1lt, q_inb, n_nar, n_nar0, n_nar1, n_bool, Bool.false_eq_true, Bool.true_eq_false, if_true, if_false, ↓reduceIte, Nat.reduceAdd, Nat.reduceMul, Nat.reduceSub, Nat.reduceLT, Nat.reduceLeDiff, Nat.reduceEqDiff, Nat.reduceMod, Nat.reduceDiv, q_R hr'.1, r_bf0 hr' ha, L_X12_guard_31]
end GE
