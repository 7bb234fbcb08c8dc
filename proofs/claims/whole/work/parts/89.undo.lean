/-! undo -/
def k_u1 (K : Nat → Int32) : Nat → Int32 := fun k => if k = 8 then nI (k_nd K - 1) else if 9 ≤ k ∧ k < 53 then K (189 + 44 * (k_nd K - 1) + (k - 9)) else K k
def k_us : Nat → (Nat → Int32) → (Nat → Int32)
  | 0, K => K
  | n + 1, K => k_u1 (k_us n K)
theorem k_u1_o {K : Nat → Int32} {k : Nat} (h : ¬ (8 ≤ k ∧ k < 53)) : k_u1 K k = K k := by
  unfold k_u1
  rw [if_neg (by omega), if_neg (by omega)]
theorem k_u1_nd {K : Nat → Int32} (h12 : k_nd K ≤ 12) : k_nd (k_u1 K) = k_nd K - 1 := by
  show (nI (k_nd K - 1)).toNatClampNeg = _
  exact nI_clamp (by omega)
theorem k_u1_s {K : Nat → Int32} {k : Nat} (hk : k < 53) (h8 : k ≠ 8) : k_u1 K k = k_put K (k_un K (k_nd K - 1)) k := by
  unfold k_u1
  rw [if_neg h8]
  by_cases q : 9 ≤ k ∧ k < 53
  · rw [if_pos q, k_put_53 q]
    rfl
  · rw [if_neg q, k_put_o q]
theorem k_u1_un {K : Nat → Int32} {i k : Nat} (hk : k < 53) (h8 : k ≠ 8) : k_put (k_u1 K) (k_un (k_u1 K) i) k = k_put K (k_un K i) k := by
  by_cases q : 9 ≤ k ∧ k < 53
  · rw [k_put_53 q, k_put_53 q]
    exact k_u1_o (by omega)
  · rw [k_put_o q, k_put_o q, k_u1_o (by omega)]
theorem k_u1_wf {K : Nat → Int32} (h : k_wf K) (hn : 1 ≤ k_nd K) : k_wf (k_u1 K) := by
  obtain ⟨h1, ⟨n1, n2, n3⟩, ⟨a1, a2, a3⟩, r, hr, hr2⟩ := h
  have hb := k_bds h1
  have en : k_n (k_u1 K) = k_n K := by unfold k_n; rw [k_u1_o (by omega)]
  have ea : k_na (k_u1 K) = k_na K := by unfold k_na; rw [k_u1_o (by omega)]
  have ed := k_u1_nd n2
  have pn : ∀ F, k_n (k_put K F) ≤ 8 := fun F => by rw [k_n_put]; exact hb.2.1
  refine ⟨⟨k_okT_cg (fun k hk h8 => k_u1_o (by omega)) (fun k hk => k_u1_o (by omega)) h1.1, k_okS_cg (pn _) (fun k hk h8 => k_u1_s hk h8) (n3 (k_nd K - 1) (by omega))⟩, ⟨by rw [ed]; rfl, by omega, fun i hi => ?_⟩, ⟨by rw [ea, k_u1_o (by omega)]; exact a1, by rw [ea]; exact a2, fun k hk => ?_⟩, r, hr, by rw [k_u1_o (by omega)]; exact hr2.1, fun k h1 h2 => by rw [k_u1_o (by omega)]; exact hr2.2.1 k h1 h2, fun k h1 => by rw [k_u1_o (by omega)]; exact hr2.2.2 k h1⟩
  · rw [ed] at hi
    exact k_okS_cg (pn _) (fun k hk h8 => k_u1_un hk h8) (n3 i (by omega))
  · rw [ea] at hk
    rw [en, k_u1_o (by omega), k_u1_o (by omega)]
    exact a3 k hk
theorem k_us_wf {K : Nat → Int32} (h : k_wf K) : ∀ n, n ≤ k_nd K → k_wf (k_us n K) ∧ k_nd (k_us n K) = k_nd K - n
  | 0, _ => ⟨h, rfl⟩
  | n + 1, hn => by
    obtain ⟨a, b⟩ := k_us_wf h n (by omega)
    refine ⟨k_u1_wf a (by omega), ?_⟩
    show k_nd (k_u1 (k_us n K)) = _
    rw [k_u1_nd a.2.1.2.1, b]
    omega
theorem k_us_o {K : Nat → Int32} : ∀ n {k : Nat}, ¬ (8 ≤ k ∧ k < 53) → k_us n K k = K k
  | 0, _, _ => rfl
  | n + 1, k, h => (k_u1_o h).trans (k_us_o n h)
theorem k_us_eq {K : Nat → Int32} (h : k_wf K) {n : Nat} (hn : n + 1 ≤ k_nd K) (k : Nat) : k_us (n + 1) K k = if k = 8 then nI (k_nd K - (n + 1)) else if 9 ≤ k ∧ k < 53 then K (189 + 44 * (k_nd K - (n + 1)) + (k - 9)) else K k := by
  obtain ⟨a, b⟩ := k_us_wf h n (by omega)
  show k_u1 (k_us n K) k = _
  unfold k_u1
  rw [b, show k_nd K - n - 1 = k_nd K - (n + 1) by omega]
  by_cases q1 : k = 8
  · rw [if_pos q1, if_pos q1]
  · rw [if_neg q1, if_neg q1]
    by_cases q2 : 9 ≤ k ∧ k < 53
    · rw [if_pos q2, if_pos q2]
      exact k_us_o n (by omega)
    · rw [if_neg q2, if_neg q2]
      exact k_us_o n (by omega)
section UD
variable {M : ir_M} {K : Nat → Int32} {d : Nat}
theorem c_giveBack (hp : q_PI M) (hw : k_wf K) (hs : c_sc M 3 K) (hn : 1 ≤ k_nd K) : ∃ M', m_X5_giveBack (d + 2) 3 M = ir_oV M' ∧ q_eq [3, 12, 13, 14, 15, 16, 17] M M' ∧ c_sc M' 3 (k_u1 K) := by
  obtain ⟨hk, ⟨n1, n2, n3⟩, ⟨a1, a2, a3⟩, -⟩ := hw
  obtain ⟨ht, hap, hst, hu2, e, he, hu3, hu, hu7⟩ := hs
  have hb := k_bds hk
  have b12 : (12 : Nat) ∈ q_S_l := by decide
  have hx : (e + (k_nd K - 1)) % 12 < 12 := Nat.mod_lt _ (by decide)
  obtain ⟨x, ex⟩ : ∃ x, x = (e + (k_nd K - 1)) % 12 := ⟨_, rfl⟩
  rw [← ex] at hx
  have hxS := q_S_kp x hx
  have e2 : ir_I M 3 2 = nI (k_nd K) := hu2.trans n1
  have q0 : q_eq [3] M (ir_sI M 3 2 (nI (k_nd K - 1))) := q_eq.sI (by decide)
  have hp0 := q_PI_eq q0 hp
  have okx := n3 (k_nd K - 1) (by omega)
  have cx0 := hu (k_nd K - 1) (by omega)
  rw [show 3 + 16 + 6 * ((e + (k_nd K - 1)) % 12) = 19 + 6 * x by omega] at cx0
  have cx : c_st (ir_sI M 3 2 (nI (k_nd K - 1))) (19 + 6 * x) (k_put K (k_un K (k_nd K - 1))) := c_st_fr (fun j hj => if_neg (by omega)) cx0
  have hring : ir_I (ir_sI M 3 2 (nI (k_nd K - 1))) (19 + 6 * x) 2 = 0 ∨ ir_I (ir_sI M 3 2 (nI (k_nd K - 1))) (19 + 6 * x) 2 = 1 := by
    rw [cx.2.2.1]
    exact okx.2.2.2.2.2.2.2.1
  obtain ⟨M1, e1, q1, f0, f1⟩ := c_take (d := d) hp0 b12 hxS (by omega) hring
  have nput : k_n (k_put K (k_un K (k_nd K - 1))) = k_n K := k_n_put
  have mput := okx.2.1
  have wput := okx.2.2.2.2.2.2.2.2.2.1
  have c1 : c_st M1 12 (k_put K (k_un K (k_nd K - 1))) := c_st_take (by omega) (by omega) (by omega) cx f0 f1
  have c2 : c_st M1 12 (k_u1 K) := c_st_cg (by omega) (by omega) (by omega) (fun k hk h8 => k_u1_s hk h8) c1
  have qq : q_eq [3, 12, 13, 14, 15, 16, 17] M M1 := (q0.sub (by decide)).tr (q1.sub (by decide))
  have fr : ∀ a, a ≠ 3 → ¬ (12 ≤ a ∧ a ≤ 17) → M1.1 a = M.1 a := fun a h3 h1 => qq.1 a (by simp only [List.mem_cons, List.not_mem_nil, or_false]; omega)
  have r2 : ir_I M1 3 2 = nI (k_nd K - 1) := (q_I_eq q1 (by decide) 2).trans q_I_s
  have r3 : ir_I M1 3 3 = nI e := (q_I_eq q1 (by decide) 3).trans ((q_I_k (by decide)).trans hu3)
  have ed := k_u1_nd n2
  refine ⟨M1, ?_, qq, c_tdT_cg (by omega) (by omega) (fun k hk h8 => k_u1_o (by omega)) (fun k h1 h2 => k_u1_o (by omega)) (fun k hk => k_u1_o (by omega)) (c_tdT_fr (fun j hj _ _ => fr _ (by omega) (by omega)) ht), ?_, c2, ?_, e, he, r3, fun i hi => ?_, fun z hz => ?_⟩
  · rw [E_X5_giveBack]
    simp (disch := omega) only [q_ckt, q_lt, q_cI, q_cJ, q_cV, q_cP, q_xI, q_xV, q_xP, q_xJ, g_gk, g_ga, g_gw, g_gp, g_gq, g_P, g_J, q_I_s, q_I_n, q_I_k, nI_add, pk_sub, pk_mul, nI_clamp, n_lt0, n_0lt, n_eq0, n_lt, n_le, n_eq, n_m1, n_m2, n_m9, n_12, n_19, n_10, n_01, n_1n1, n_0n1, n_1n0, n_0n0, n_dI, n_m1lt, q_inb, n_nar, n_nar0, n_nar1, n_bool, Bool.false_eq_true, Bool.true_eq_false, if_true, if_false, ↓reduceIte, Nat.reduceAdd, Nat.reduceMul, Nat.reduceSub, Nat.reduceLT, Nat.reduceLeDiff, Nat.reduceEqDiff, Nat.reduceMod, Nat.reduceDiv, q_W hp, e2, show 0 < k_nd K by omega, hu3, pk_rem, ← ex, q_k18 hp hx, n_blt, Bool.true_or, Bool.and_self, q_S hp b12, e1]
  · intro p hp'
    have en : k_n (k_u1 K) = k_n K := by unfold k_n; rw [k_u1_o (by omega)]
    rw [en] at hp'
    obtain ⟨y, y1, y2, y3⟩ := hap p hp'
    refine ⟨y, y1, (congrFun (fr _ (by omega) (by omega)) p).trans y2, fun q hq => ?_⟩
    rw [y3 q hq, k_ap_cg a2 (k_u1_o (by omega)) (fun k h1 h2 => k_u1_o (by omega))]
  · rw [r2]
    rfl
  · rw [ed] at hi
    have := Nat.mod_lt (e + i) (show 0 < 12 by decide)
    have o := n3 i (by omega)
    have o1 := o.2.1
    have o2 := o.2.2.2.2.2.2.2.2.2.1
    have o3 : k_n (k_put K (k_un K i)) = k_n K := k_n_put
    exact c_st_cg (by omega) (by omega) (by omega) (fun k hk h8 => k_u1_un hk h8) (c_st_fr (fun j hj => fr _ (by omega) (by omega)) (hu i (by omega)))
  · rw [show ir_I M1 (3 + 16 + 6 * z) 2 = ir_I M (3 + 16 + 6 * z) 2 from congrFun (fr _ (by omega) (by omega)) 2]
    exact hu7 z hz
end UD
section U2
variable {L : Nat} {xs : Nat → Int32}
theorem S_undo (a : Int32) : q_St L xs (q_Iv L xs) (m_L_undo 200 1 a 436) (m_X12_undo 200 412 a) := by
  refine q_Sd_mk (x := m_X11_undo 199 1 a) (fun M => E_L_undo 199 1 a 436 M) fun M hp hI => ?_
  have hr := c_I_r hp hI.1
  obtain ⟨hwf, hsc⟩ := hI.1
  generalize M.1 413 = K at hr hwf hsc ⊢
  have e12 : (12 : Int64).toInt = ((12 : Nat) : Int) := by decide +kernel
  have n1 := hwf.2.1.1
  have n2 := hwf.2.1.2.1
  have e32 : ir_I M 3 2 = nI (k_nd K) := hsc.2.2.2.1.trans n1
  by_cases ha : 1 ≤ a.toInt ∧ a.toInt ≤ ((12 : Nat) : Int)
  · obtain ⟨y, hy1, hy2, rfl⟩ := k_one (by decide) ha
    by_cases hy : y ≤ k_nd K
    · obtain ⟨wy, dy⟩ := k_us_wf hwf y hy
      refine Or.inl ⟨nI (k_nd K - y), k_us y K, ?_, wy, ?_⟩
      · have L := q_up (σ := ir_M) (V := fun x t => v_X11_undo_35 198 1 (nI y) (nI x) t) (N := y) (I := fun x t => q_dc M t ∧ c_sc t 3 (k_us x K)) (K := fun t => ir_oI (nI (k_nd K - y)) (ir_sI t 121 0 (nI 0))) (by
          rintro x t hx ⟨ht, hs⟩
          have hpt := ht.p hp
          obtain ⟨wx, dx⟩ := k_us_wf hwf x (by omega)
          obtain ⟨M2, e2, q2, c2⟩ := c_giveBack (d := 196) hpt wx hs (by omega)
          refine ⟨M2, ⟨ht.tr (q_dc_eq q2 (by decide)), c2⟩, ?_⟩
          rw [L_X11_undo_35]
          simp (disch := omega) only [q_ckt, q_lt, q_cI, q_cJ, q_cV, q_cP, q_xI, q_xV, q_xP, q_xJ, g_gk, g_ga, g_gw, g_gp, g_gq, g_P, g_J, q_I_s, q_I_n, q_I_k, nI_add, pk_sub, pk_mul, nI_clamp, n_lt0, n_0lt, n_eq0, n_lt, n_le, n_eq, n_m1, n_m2, n_m9, n_12, n_19, n_10, n_01, n_1n1, n_0n1, n_1n0, n_0n0, n_dI, n_m1lt, q_inb, n_nar, n_nar0, n_nar1, n_bool, Bool.false_eq_true, Bool.true_eq_false, if_true, if_false, ↓reduceIte, Nat.reduceAdd, Nat.reduceMul, Nat.reduceSub, Nat.reduceLT, Nat.reduceLeDiff, Nat.reduceEqDiff, Nat.reduceMod, Nat.reduceDiv, hx, q_W hpt, e2]) (by
          rintro t ⟨ht, hs⟩
          have hpt := ht.p hp
          have e2 : ir_I t 3 2 = nI (k_nd K - y) := by
            rw [hs.2.2.2.1, wy.2.1.1, dy]
          rw [L_X11_undo_35]
          simp (disch := omega) only [q_ckt, q_lt, q_cI, q_cJ, q_cV, q_cP, q_xI, q_xV, q_xP, q_xJ, g_gk, g_ga, g_gw, g_gp, g_gq, g_P, g_J, q_I_s, q_I_n, q_I_k, nI_add, pk_sub, pk_mul, nI_clamp, n_lt0, n_0lt, n_eq0, n_lt, n_le, n_eq, n_m1, n_m2, n_m9, n_12, n_19, n_10, n_01, n_1n1, n_0n1, n_1n0, n_0n0, n_dI, n_m1lt, q_inb, n_nar, n_nar0, n_nar1, n_bool, Bool.false_eq_true, Bool.true_eq_false, if_true, if_false, ↓reduceIte, Nat.reduceAdd, Nat.reduceMul, Nat.reduceSub, Nat.reduceLT, Nat.reduceLeDiff, Nat.reduceEqDiff, Nat.reduceMod, Nat.reduceDiv, Nat.lt_irrefl, q_W hpt, q_O hpt, show ir_isB (nI 0) = true from rfl, Bool.and_self, e2]) (i := 0) (t := M) (by omega) ⟨q_dc.rf, hsc⟩
        obtain ⟨t, ⟨ht, hs⟩, ee⟩ := L
        refine ⟨_, ?_, ht.tr (q_dc_eq (q_eq.sI (S := [121]) (by decide)) (by decide)), q_I_s, c_sc_fr (fun j hj h6 => if_neg (by omega)) hs⟩
        rw [E_X11_undo 198]
        simp (disch := omega) only [q_ckt, q_lt, q_cI, q_cJ, q_cV, q_cP, q_xI, q_xV, q_xP, q_xJ, g_gk, g_ga, g_gw, g_gp, g_gq, g_P, g_J, q_I_s, q_I_n, q_I_k, nI_add, pk_sub, pk_mul, nI_clamp, n_lt0, n_0lt, n_eq0, n_lt, n_le, n_eq, n_m1, n_m2, n_m9, n_12, n_19, n_10, n_01, n_1n1, n_0n1, n_1n0, n_0n0, n_dI, n_m1lt, q_inb, n_nar, n_nar0, n_nar1, n_bool, Bool.false_eq_true, Bool.true_eq_false, if_true, if_false, ↓reduceIte, Nat.reduceAdd, Nat.reduceMul, Nat.reduceSub, Nat.reduceLT, Nat.reduceLeDiff, Nat.reduceEqDiff, Nat.reduceMod, Nat.reduceDiv, show ¬ y < 1 by omega, show ¬ 12 < y by omega, q_W hp, e32, show ¬ k_nd K < y by omega]
        exact ee
      · intro M' hr'
        obtain ⟨z, rfl⟩ : ∃ z, y = z + 1 := ⟨y - 1, by omega⟩
        have h4 := r_4 (v := nI 0) hr'
        have e8 : ir_I M' 413 8 = nI (k_nd K) := (hr'.2.2 8).trans n1
        obtain ⟨N0, eN0⟩ : ∃ N, N = ir_sI (ir_sI M' 412 4 (nI 0)) 413 8 (nI (k_nd K - (z + 1))) := ⟨_, rfl⟩
        have hpN : q_PI N0 := by rw [eN0]; exact hr'.1
        have a0 : ∀ k, ir_I N0 413 k = if k = 8 then nI (k_nd K - (z + 1)) else K k := fun k => by
          rw [eN0, q_I_u, q_I_n (by decide), hr'.2.2]
        have L := q_up (σ := ir_M) (V := fun x t => v_X12_undo_47 199 412 (nI x) t) (N := 44) (I := fun x t => q_eq [413] N0 t ∧ ∀ k, ir_I t 413 k = if k = 8 then nI (k_nd K - (z + 1)) else if 9 ≤ k ∧ k < 9 + x then K (189 + 44 * (k_nd K - (z + 1)) + (k - 9)) else K k) (K := fun t => ir_oI (nI (k_nd K - (z + 1))) t) (by
          rintro x t hx ⟨hq, ht⟩
          have hpt := q_PI_eq hq hpN
          have e8 : ir_I t 413 8 = nI (k_nd K - (z + 1)) := by rw [ht, if_pos rfl]
          have ex : ir_I t 413 (189 + 44 * (k_nd K - (z + 1)) + x) = K (189 + 44 * (k_nd K - (z + 1)) + x) := by rw [ht, if_neg (by omega), if_neg (by omega)]
          refine ⟨ir_sI t 413 (9 + x) (K (189 + 44 * (k_nd K - (z + 1)) + x)), ⟨hq.tr (q_eq.sI (by decide)), fun k => ?_⟩, ?_⟩
          · rw [q_I_u, ht]
            by_cases q : k = 9 + x
            · rw [if_pos q, if_neg (show ¬ k = 8 by omega), if_pos (show 9 ≤ k ∧ k < 9 + (x + 1) by omega), q, show 9 + x - 9 = x by omega]
            · rw [if_neg q]
              by_cases q1 : k = 8
              · rw [if_pos q1, if_pos q1]
              · rw [if_neg q1, if_neg q1]
                by_cases q2 : 9 ≤ k ∧ k < 9 + x
                · rw [if_pos q2, if_pos (show 9 ≤ k ∧ k < 9 + (x + 1) by omega)]
                · rw [if_neg q2, if_neg (show ¬ (9 ≤ k ∧ k < 9 + (x + 1)) by omega)]
          · rw [L_X12_undo_47]
            simp (disch := omega) only [q_ckt, q_lt, q_cI, q_cJ, q_cV, q_cP, q_xI, q_xV, q_xP, q_xJ, g_gk, g_ga, g_gw, g_gp, g_gq, g_P, g_J, q_I_s, q_I_n, q_I_k, nI_add, pk_sub, pk_mul, nI_clamp, n_lt0, n_0lt, n_eq0, n_lt, n_le, n_eq, n_m1, n_m2, n_m9, n_12, n_19, n_10, n_01, n_1n1, n_0n1, n_1n0, n_0n0, n_dI, n_m1lt, q_inb, n_nar, n_nar0, n_nar1, n_bool, Bool.false_eq_true, Bool.true_eq_false, if_true, if_false, ↓reduceIte, Nat.reduceAdd, Nat.reduceMul, Nat.reduceSub, Nat.reduceLT, Nat.reduceLeDiff, Nat.reduceEqDiff, Nat.reduceMod, Nat.reduceDiv, q_R hpt, hx, e8, ex]) (by
          rintro t ⟨hq, ht⟩
          have hpt := q_PI_eq hq hpN
          have e8 : ir_I t 413 8 = nI (k_nd K - (z + 1)) := by rw [ht, if_pos rfl]
          rw [L_X12_undo_47]
          simp (disch := omega) only [q_ckt, q_lt, q_cI, q_cJ, q_cV, q_cP, q_xI, q_xV, q_xP, q_xJ, g_gk, g_ga, g_gw, g_gp, g_gq, g_P, g_J, q_I_s, q_I_n, q_I_k, nI_add, pk_sub, pk_mul, nI_clamp, n_lt0, n_0lt, n_eq0, n_lt, n_le, n_eq, n_m1, n_m2, n_m9, n_12, n_19, n_10, n_01, n_1n1, n_0n1, n_1n0, n_0n0, n_dI, n_m1lt, q_inb, n_nar, n_nar0, n_nar1, n_bool, Bool.false_eq_true, Bool.true_eq_false, if_true, if_false, ↓reduceIte, Nat.reduceAdd, Nat.reduceMul, Nat.reduceSub, Nat.reduceLT, Nat.reduceLeDiff, Nat.reduceEqDiff, Nat.reduceMod, Nat.reduceDiv, q_R hpt, e8]) (i := 0) (t := N0) (by omega) ⟨q_eq.rf _ _, fun k => by
            rw [a0]
            by_cases q1 : k = 8
            · rw [if_pos q1, if_pos q1]
            · rw [if_neg q1, if_neg q1, if_neg (by omega)]⟩
        obtain ⟨t, ⟨hq, ht⟩, ee⟩ := L
        have dN : q_dr M' N0 := by
          rw [eN0]
          exact (q_dr_4 rfl).tr (q_dr_eq (q_eq.sI (S := [413]) (by decide)) (by decide))
        refine ⟨t, ?_, dN.tr (q_dr_eq hq (by decide)), fun k => ?_, ?_⟩
        · rw [E_X12_undo 199]
          simp (disch := omega) only [q_ckt, q_lt, q_cI, q_cJ, q_cV, q_cP, q_xI, q_xV, q_xP, q_xJ, g_gk, g_ga, g_gw, g_gp, g_gq, g_P, g_J, q_I_s, q_I_n, q_I_k, nI_add, pk_sub, pk_mul, nI_clamp, n_lt0, n_0lt, n_eq0, n_lt, n_le, n_eq, n_m1, n_m2, n_m9, n_12, n_19, n_10, n_01, n_1n1, n_0n1, n_1n0, n_0n0, n_dI, n_m1lt, q_inb, n_nar, n_nar0, n_nar1, n_bool, Bool.false_eq_true, Bool.true_eq_false, if_true, if_false, ↓reduceIte, Nat.reduceAdd, Nat.reduceMul, Nat.reduceSub, Nat.reduceLT, Nat.reduceLeDiff, Nat.reduceEqDiff, Nat.reduceMod, Nat.reduceDiv, q_R hr'.1, r_within, k_rng60 e12, ha, and_self, e8, show ¬ k_nd K < z + 1 by omega]
          rw [← eN0]
          exact ee
        · rw [ht, k_us_eq hwf hy]
        · rw [q_I_eq hq (by decide), eN0, q_I_n (by decide), q_I_s]
    · refine Or.inr (Or.inr ⟨3, 1, by omega, by omega, ?_, fun _ => rfl, fun M' s => ⟨nI 0, _, ?_, (q_st_4 s.1.1 (k := 4) (v := nI 0) rfl).tr (q_st_4 (M := ir_sI M' 412 4 (nI 0)) s.1.1 (k := 4) (v := nI 1) rfl), rfl, q_I_s⟩⟩)
      · rw [E_X11_undo 198]
        simp (disch := omega) only [q_ckt, q_lt, q_cI, q_cJ, q_cV, q_cP, q_xI, q_xV, q_xP, q_xJ, g_gk, g_ga, g_gw, g_gp, g_gq, g_P, g_J, q_I_s, q_I_n, q_I_k, nI_add, pk_sub, pk_mul, nI_clamp, n_lt0, n_0lt, n_eq0, n_lt, n_le, n_eq, n_m1, n_m2, n_m9, n_12, n_19, n_10, n_01, n_1n1, n_0n1, n_1n0, n_0n0, n_dI, n_m1lt, q_inb, n_nar, n_nar0, n_nar1, n_bool, Bool.false_eq_true, Bool.true_eq_false, if_true, if_false, ↓reduceIte, Nat.reduceAdd, Nat.reduceMul, Nat.reduceSub, Nat.reduceLT, Nat.reduceLeDiff, Nat.reduceEqDiff, Nat.reduceMod, Nat.reduceDiv, show ¬ y < 1 by omega, show ¬ 12 < y by omega, q_W hp, e32, show k_nd K < y by omega]
      · have hr' := q_st_r s hr
        have h4 := r_4 (v := nI 0) hr'
        have e8 : ir_I M' 413 8 = nI (k_nd K) := (hr'.2.2 8).trans n1
        rw [E_X12_undo 199]
        simp (disch := omega) only [q_ckt, q_lt, q_cI, q_cJ, q_cV, q_cP, q_xI, q_xV, q_xP, q_xJ, g_gk, g_ga, g_gw, g_gp, g_gq, g_P, g_J, q_I_s, q_I_n, q_I_k, nI_add, pk_sub, pk_mul, nI_clamp, n_lt0, n_0lt, n_eq0, n_lt, n_le, n_eq, n_m1, n_m2, n_m9, n_12, n_19, n_10, n_01, n_1n1, n_0n1, n_1n0, n_0n0, n_dI, n_m1lt, q_inb, n_nar, n_nar0, n_nar1, n_bool, Bool.false_eq_true, Bool.true_eq_false, if_true, if_false, ↓reduceIte, Nat.reduceAdd, Nat.reduceMul, Nat.reduceSub, Nat.reduceLT, Nat.reduceLeDiff, Nat.reduceEqDiff, Nat.reduceMod, Nat.reduceDiv, q_R hr'.1, r_within, k_rng60 e12, ha, and_self, e8, show k_nd K < y by omega, r_fails h4.1]
  · refine Or.inr (Or.inr ⟨3, 1, by omega, by omega, ?_, fun _ => rfl, fun M' s => ⟨nI 0, _, ?_, (q_st_4 s.1.1 (k := 4) (v := nI 0) rfl).tr (q_st_4 (M := ir_sI M' 412 4 (nI 0)) s.1.1 (k := 4) (v := nI 1) rfl), rfl, q_I_s⟩⟩)
    · rw [E_X11_undo 198]
      simp only [k_c1n, k_cn (show 12 < 2 ^ 31 by decide)]
      by_cases q : a.toInt < 1
      · rw [if_pos q]
      · rw [if_neg q, if_pos (by omega)]
    · have hr' := q_st_r s hr
      have h4 := r_4 (v := nI 0) hr'
      rw [E_X12_undo 199]
      simp (disch := omega) only [q_ckt, q_lt, q_cI, q_cJ, q_cV, q_cP, q_xI, q_xV, q_xP, q_xJ, g_gk, g_ga, g_gw, g_gp, g_gq, g_P, g_J, q_I_s, q_I_n, q_I_k, nI_add, pk_sub, pk_mul, nI_clamp, n_lt0, n_0lt, n_eq0, n_lt, n_le, n_eq, n_m1, n_m2, n_m9, n_12, n_19, n_10, n_01, n_1n1, n_0n1, n_1n0, n_0n0, n_dI, n_m1lt, q_inb, n_nar, n_nar0, n_nar1, n_bool, Bool.false_eq_true, Bool.true_eq_false, if_true, if_false, ↓reduceIte, Nat.reduceAdd, Nat.reduceMul, Nat.reduceSub, Nat.reduceLT, Nat.reduceLeDiff, Nat.reduceEqDiff, Nat.reduceMod, Nat.reduceDiv, q_R hr'.1, r_within, k_rng60 e12, ha, r_fails h4.1]
end U2
