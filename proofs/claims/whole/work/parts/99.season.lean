/-! season -/
def k_nx (s : Int32) : Int32 := nI 1103515245 * s + nI 12345
def k_dr (s : Int32) : Int32 := (s.toUInt32 >>> ((nI 16).toUInt32 &&& Int32.toUInt32 31)).toInt32
def k_dx (s : Int32) : Nat := (k_dr s).toNatClampNeg
theorem n_u32 (u : UInt32) : u.toInt32 = nI u.toNat := by
  apply n_bvI
  show u.toBitVec = BitVec.ofNat 32 u.toBitVec.toNat
  apply BitVec.eq_of_toNat_eq
  rw [BitVec.toNat_ofNat]
  exact (Nat.mod_eq_of_lt u.toBitVec.isLt).symm
theorem k_dr_x (s : Int32) : k_dr s = nI (k_dx s) ∧ k_dx s < 65536 := by
  have e16 : (nI 16).toUInt32 &&& Int32.toUInt32 31 = 16 := by decide +kernel
  have h : (s.toUInt32 >>> (16 : UInt32)).toNat < 65536 := by
    rw [UInt32.toNat_shiftRight]
    have := s.toUInt32.toNat_lt
    rw [show (16 : UInt32).toNat % 32 = 16 by decide +kernel, Nat.shiftRight_eq_div_pow]
    omega
  have e : k_dr s = nI (s.toUInt32 >>> (16 : UInt32)).toNat := by
    unfold k_dr
    rw [e16, n_u32]
  have ex : k_dx s = (s.toUInt32 >>> (16 : UInt32)).toNat := by
    unfold k_dx
    rw [e, nI_clamp (by omega)]
  rw [ex]
  exact ⟨e, h⟩
def k_sd (K : Nat → Int32) (s : Int32) : Int32 × Int32 := if k_dx (k_nx s) % 3 = 0 then (-1, k_nx s) else if k_dx (k_nx s) % 3 = 1 then (nI (10 * (k_dx (k_nx (k_nx s)) % k_n K) + k_dx (k_nx (k_nx (k_nx s))) % k_g K), k_nx (k_nx (k_nx s))) else (nI (100 + 10 * (k_dx (k_nx (k_nx s)) % k_n K) + k_dx (k_nx (k_nx (k_nx s))) % k_n K), k_nx (k_nx (k_nx s)))
def k_se (K : Nat → Int32) (s : Int32) : Nat → (Nat → Int32) × Int32 × Nat
  | 0 => (K, s, 0)
  | i + 1 => if k_wy (k_se K s i).1 (k_sd (k_se K s i).1 (k_se K s i).2.1).1.toInt64 = 0 then ((k_mk (k_kp (k_se K s i).1) (k_sd (k_se K s i).1 (k_se K s i).2.1).1.toInt64).2, (k_sd (k_se K s i).1 (k_se K s i).2.1).2, (k_se K s i).2.2 + 1) else ((k_se K s i).1, (k_sd (k_se K s i).1 (k_se K s i).2.1).2, (k_se K s i).2.2)
theorem k_se_le {K : Nat → Int32} {s : Int32} : ∀ i, (k_se K s i).2.2 ≤ i
  | 0 => Nat.le_refl _
  | i + 1 => by
    have := k_se_le (K := K) (s := s) i
    unfold k_se
    split
    · dsimp only; omega
    · dsimp only; omega
theorem k_gpos {K : Nat → Int32} (hk : k_ok K) (h : 0 < k_n K) : 0 < k_g K := by
  have := k_ag hk h
  omega
section SN
variable {M : ir_M} {K : Nat → Int32} {d : Nat}
/-- one field of the class's own object is changed, above those that live -/
theorem q_e1 {M M' : ir_M} (hp : q_PI M) (he : q_eq [1] M M') (hk : ∀ k, k < 4 → ir_I M' 1 k = ir_I M 1 k) : q_st 0 M M' ∧ q_dc M M' := by
  have dc : q_dc M M' := ⟨fun a ha => he.1 a (fun q => by rw [List.mem_singleton.mp q] at ha; exact nomatch ha), hk, he.2⟩
  exact ⟨⟨dc.go hp, fun a ha => he.1 a (fun q => by rw [List.mem_singleton.mp q] at ha; exact nomatch ha), dc.v2, fun a k ha => congrFun (he.1 a (fun q => by rw [List.mem_singleton.mp q] at ha; exact nomatch ha)) k⟩, dc⟩
theorem q_e4 {M M' : ir_M} (hp : q_PI M) (he : q_eq [412] M M') (hk : ∀ k, q_l2 412 k = true → ir_I M' 412 k = ir_I M 412 k) : q_st 0 M M' ∧ q_dr M M' := by
  have dc : q_dr M M' := ⟨fun a ha => he.1 a (fun q => by rw [List.mem_singleton.mp q] at ha; exact nomatch ha), hk, he.2⟩
  exact ⟨⟨dc.go hp, fun a ha => he.1 a (fun q => by rw [List.mem_singleton.mp q] at ha; exact nomatch ha), dc.v2, fun a k ha => congrFun (he.1 a (fun q => by rw [List.mem_singleton.mp q] at ha; exact nomatch ha)) k⟩, dc⟩
theorem c_draw (hp : q_PI M) {s : Int32} (hs : ir_I M 1 19 = s) : m_X11_draw (d + 1) 1 M = ir_oI (nI (k_dx (k_nx s))) (ir_sI M 1 19 (k_nx s)) := by
  rw [← (k_dr_x (k_nx s)).1, E_X11_draw]
  simp (disch := omega) only [q_ckt, q_lt, q_cI, q_cJ, q_cV, q_cP, q_xI, q_xV, q_xP, q_xJ, g_gk, g_ga, g_gw, g_gp, g_gq, g_P, g_J, q_I_s, q_I_n, q_I_k, nI_add, pk_sub, pk_mul, nI_clamp, n_lt0, n_0lt, n_eq0, n_lt, n_le, n_eq, n_m1, n_m2, n_m9, n_12, n_19, n_10, n_01, n_1n1, n_0n1, n_1n0, n_0n0, n_dI, n_m1lt, q_inb, n_nar, n_nar0, n_nar1, n_bool, Bool.false_eq_true, Bool.true_eq_false, if_true, if_false, ↓reduceIte, Nat.reduceAdd, Nat.reduceMul, Nat.reduceSub, Nat.reduceLT, Nat.reduceLeDiff, Nat.reduceEqDiff, Nat.reduceMod, Nat.reduceDiv, q_W hp, hs]
  rfl
theorem r_draw (hp : q_PI M) {s : Int32} {n : Nat} (hs : ir_I M 412 24 = s) (h0 : 0 < n) (hn : n < 1000) : m_X12_draw (d + 1) 412 (nI n) M = ir_oI (nI (k_dx (k_nx s) % n)) (ir_sI M 412 24 (k_nx s)) := by
  have e := (k_dr_x (k_nx s)).1
  have l := (k_dr_x (k_nx s)).2
  rw [E_X12_draw]
  simp (disch := omega) only [q_ckt, q_lt, q_cI, q_cJ, q_cV, q_cP, q_xI, q_xV, q_xP, q_xJ, g_gk, g_ga, g_gw, g_gp, g_gq, g_P, g_J, q_I_s, q_I_n, q_I_k, nI_add, pk_sub, pk_mul, nI_clamp, n_lt0, n_0lt, n_eq0, n_lt, n_le, n_eq, n_m1, n_m2, n_m9, n_12, n_19, n_10, n_01, n_1n1, n_0n1, n_1n0, n_0n0, n_dI, n_m1lt, q_inb, n_nar, n_nar0, n_nar1, n_bool, Bool.false_eq_true, Bool.true_eq_false, if_true, if_false, ↓reduceIte, Nat.reduceAdd, Nat.reduceMul, Nat.reduceSub, Nat.reduceLT, Nat.reduceLeDiff, Nat.reduceEqDiff, Nat.reduceMod, Nat.reduceDiv, q_R hp, hs]
  rw [show nI 1103515245 * s + nI 12345 = k_nx s from rfl, show ((k_nx s).toUInt32 >>> ((nI 16).toUInt32 &&& Int32.toUInt32 31)).toInt32 = k_dr (k_nx s) from rfl, e, pk_rem (by omega) h0 (by omega)]
theorem c_sd (h : c_rl M 12 K) (h0 : 0 < k_n K) {s : Int32} (hs : ir_I M 1 19 = s) : ∃ M', m_X11_drawDeed (d + 2) 1 M = ir_oI (k_sd K s).1 M' ∧ q_eq [1] M M' ∧ (∀ k, k < 4 → ir_I M' 1 k = ir_I M 1 k) ∧ ir_I M' 1 19 = (k_sd K s).2 := by
  have hb := k_bds h.2.2.1
  have hg0 := k_gpos h.2.2.1 h0
  have hp := h.1
  obtain ⟨M1, eM1⟩ : ∃ N, N = ir_sI M 1 19 (k_nx s) := ⟨_, rfl⟩
  have d1 := c_draw (d := d) hp hs
  rw [← eM1] at d1
  have q1 : q_eq [1] M M1 := by rw [eM1]; exact q_eq.sI (by decide)
  have g1 : ir_I M1 1 19 = k_nx s := by rw [eM1]; exact q_I_s
  have k1 : ∀ k, k < 4 → ir_I M1 1 k = ir_I M 1 k := fun k hk => by rw [eM1]; exact q_I_k (by omega)
  have c1 : c_rl M1 12 K := q_st_c (q_e1 hp q1 k1).1 h
  obtain ⟨M2, eM2⟩ : ∃ N, N = ir_sI M1 1 19 (k_nx (k_nx s)) := ⟨_, rfl⟩
  have d2 := c_draw (d := d) c1.1 g1
  rw [← eM2] at d2
  have q2 : q_eq [1] M1 M2 := by rw [eM2]; exact q_eq.sI (by decide)
  have g2 : ir_I M2 1 19 = k_nx (k_nx s) := by rw [eM2]; exact q_I_s
  have k2 : ∀ k, k < 4 → ir_I M2 1 k = ir_I M1 1 k := fun k hk => by rw [eM2]; exact q_I_k (by omega)
  have c2 : c_rl M2 12 K := q_st_c (q_e1 c1.1 q2 k2).1 c1
  obtain ⟨M3, eM3⟩ : ∃ N, N = ir_sI M2 1 19 (k_nx (k_nx (k_nx s))) := ⟨_, rfl⟩
  have d3 := c_draw (d := d) c2.1 g2
  rw [← eM3] at d3
  have q3 : q_eq [1] M2 M3 := by rw [eM3]; exact q_eq.sI (by decide)
  have g3 : ir_I M3 1 19 = k_nx (k_nx (k_nx s)) := by rw [eM3]; exact q_I_s
  have k3 : ∀ k, k < 4 → ir_I M3 1 k = ir_I M2 1 k := fun k hk => by rw [eM3]; exact q_I_k (by omega)
  have c3 : c_rl M3 12 K := q_st_c (q_e1 c2.1 q3 k3).1 c2
  have l1 := (k_dr_x (k_nx s)).2
  have l2 := (k_dr_x (k_nx (k_nx s))).2
  have l3 := (k_dr_x (k_nx (k_nx (k_nx s)))).2
  generalize hx1 : k_dx (k_nx s) = x1 at d1 l1
  generalize hx2 : k_dx (k_nx (k_nx s)) = x2 at d2 l2
  generalize hx3 : k_dx (k_nx (k_nx (k_nx s))) = x3 at d3 l3
  have u1 := c_use c1
  have u2 := c_use c2
  have u3 := c_use c3
  unfold k_sd
  rw [hx1, hx2, hx3]
  by_cases y0 : x1 % 3 = 0
  · rw [if_pos y0]
    refine ⟨M1, ?_, q1, k1, g1⟩
    rw [E_X11_drawDeed]
    simp (disch := omega) only [q_ckt, q_lt, q_cI, q_cJ, q_cV, q_cP, q_xI, q_xV, q_xP, q_xJ, g_gk, g_ga, g_gw, g_gp, g_gq, g_P, g_J, q_I_s, q_I_n, q_I_k, nI_add, pk_sub, pk_mul, nI_clamp, n_lt0, n_0lt, n_eq0, n_lt, n_le, n_eq, n_m1, n_m2, n_m9, n_12, n_19, n_10, n_01, n_1n1, n_0n1, n_1n0, n_0n0, n_dI, n_m1lt, q_inb, n_nar, n_nar0, n_nar1, n_bool, Bool.false_eq_true, Bool.true_eq_false, if_true, if_false, ↓reduceIte, Nat.reduceAdd, Nat.reduceMul, Nat.reduceSub, Nat.reduceLT, Nat.reduceLeDiff, Nat.reduceEqDiff, Nat.reduceMod, Nat.reduceDiv, q_W hp, d1, pk_rem, y0]
  · rw [if_neg y0]
    by_cases y1 : x1 % 3 = 1
    · rw [if_pos y1]
      refine ⟨M3, ?_, (q1.tr q2).tr q3, fun k hk => ((k3 k hk).trans (k2 k hk)).trans (k1 k hk), g3⟩
      rw [E_X11_drawDeed]
      simp (disch := omega) only [q_ckt, q_lt, q_cI, q_cJ, q_cV, q_cP, q_xI, q_xV, q_xP, q_xJ, g_gk, g_ga, g_gw, g_gp, g_gq, g_P, g_J, q_I_s, q_I_n, q_I_k, nI_add, pk_sub, pk_mul, nI_clamp, n_lt0, n_0lt, n_eq0, n_lt, n_le, n_eq, n_m1, n_m2, n_m9, n_12, n_19, n_10, n_01, n_1n1, n_0n1, n_1n0, n_0n0, n_dI, n_m1lt, q_inb, n_nar, n_nar0, n_nar1, n_bool, Bool.false_eq_true, Bool.true_eq_false, if_true, if_false, ↓reduceIte, Nat.reduceAdd, Nat.reduceMul, Nat.reduceSub, Nat.reduceLT, Nat.reduceLeDiff, Nat.reduceEqDiff, Nat.reduceMod, Nat.reduceDiv, q_W hp, d1, pk_rem, y1, q_W c1.1, q_T c1.1, u1, h0, hg0, d2, q_W c2.1, q_T c2.1, u2, d3, q_W c3.1, q_T c3.1, u3]
    · rw [if_neg y1]
      refine ⟨M3, ?_, (q1.tr q2).tr q3, fun k hk => ((k3 k hk).trans (k2 k hk)).trans (k1 k hk), g3⟩
      rw [E_X11_drawDeed]
      simp (disch := omega) only [q_ckt, q_lt, q_cI, q_cJ, q_cV, q_cP, q_xI, q_xV, q_xP, q_xJ, g_gk, g_ga, g_gw, g_gp, g_gq, g_P, g_J, q_I_s, q_I_n, q_I_k, nI_add, pk_sub, pk_mul, nI_clamp, n_lt0, n_0lt, n_eq0, n_lt, n_le, n_eq, n_m1, n_m2, n_m9, n_12, n_19, n_10, n_01, n_1n1, n_0n1, n_1n0, n_0n0, n_dI, n_m1lt, q_inb, n_nar, n_nar0, n_nar1, n_bool, Bool.false_eq_true, Bool.true_eq_false, if_true, if_false, ↓reduceIte, Nat.reduceAdd, Nat.reduceMul, Nat.reduceSub, Nat.reduceLT, Nat.reduceLeDiff, Nat.reduceEqDiff, Nat.reduceMod, Nat.reduceDiv, q_W hp, d1, pk_rem, y0, y1, q_W c1.1, q_T c1.1, u1, h0, hg0, d2, q_W c2.1, q_T c2.1, u2, d3, q_W c3.1, q_T c3.1, u3]
theorem r_sd (h : r_rl M K) (h0 : 0 < k_n K) {s w c l : Int32} (hs : ir_I M 412 24 = s) (hl : l < w) : ∃ M', v_X12_season_51 (d + 1) 412 w c l M = v_X12_season_137 (d + 1) 412 w c l (k_sd K s).1 M' ∧ q_eq [412] M M' ∧ (∀ k, k ≠ 24 → ir_I M' 412 k = ir_I M 412 k) ∧ ir_I M' 412 24 = (k_sd K s).2 := by
  have hb := k_bds h.2.1
  have hg0 := k_gpos h.2.1 h0
  have hp := h.1
  obtain ⟨M1, eM1⟩ : ∃ N, N = ir_sI M 412 24 (k_nx s) := ⟨_, rfl⟩
  have d1 := r_draw (d := d) (n := 3) hp hs (by decide) (by decide)
  rw [← eM1] at d1
  have q1 : q_eq [412] M M1 := by rw [eM1]; exact q_eq.sI (by decide)
  have g1 : ir_I M1 412 24 = k_nx s := by rw [eM1]; exact q_I_s
  have k1 : ∀ k, k ≠ 24 → ir_I M1 412 k = ir_I M 412 k := fun k hk => by rw [eM1]; exact q_I_k hk
  have c1 := r_rl_eq h q1 (by decide)
  obtain ⟨M2, eM2⟩ : ∃ N, N = ir_sI M1 412 24 (k_nx (k_nx s)) := ⟨_, rfl⟩
  have d2 := r_draw (d := d) (n := k_n K) c1.1 g1 h0 (by omega)
  rw [← eM2] at d2
  have q2 : q_eq [412] M1 M2 := by rw [eM2]; exact q_eq.sI (by decide)
  have g2 : ir_I M2 412 24 = k_nx (k_nx s) := by rw [eM2]; exact q_I_s
  have k2 : ∀ k, k ≠ 24 → ir_I M2 412 k = ir_I M1 412 k := fun k hk => by rw [eM2]; exact q_I_k hk
  have c2 := r_rl_eq c1 q2 (by decide)
  obtain ⟨M3, eM3⟩ : ∃ N, N = ir_sI M2 412 24 (k_nx (k_nx (k_nx s))) := ⟨_, rfl⟩
  have d3 := r_draw (d := d) (n := k_n K) c2.1 g2 h0 (by omega)
  have d4 := r_draw (d := d) (n := k_g K) c2.1 g2 hg0 (by omega)
  rw [← eM3] at d3 d4
  have q3 : q_eq [412] M2 M3 := by rw [eM3]; exact q_eq.sI (by decide)
  have g3 : ir_I M3 412 24 = k_nx (k_nx (k_nx s)) := by rw [eM3]; exact q_I_s
  have k3 : ∀ k, k ≠ 24 → ir_I M3 412 k = ir_I M2 412 k := fun k hk => by rw [eM3]; exact q_I_k hk
  generalize hx1 : k_dx (k_nx s) = x1 at d1
  generalize hx2 : k_dx (k_nx (k_nx s)) = x2 at d2
  generalize hx3 : k_dx (k_nx (k_nx (k_nx s))) = x3 at d3 d4
  unfold k_sd
  rw [hx1, hx2, hx3]
  by_cases y0 : x1 % 3 = 0
  · rw [if_pos y0]
    refine ⟨M1, ?_, q1, k1, g1⟩
    rw [y0] at d1
    rw [L_X12_season_51, if_pos hl]
    simp (disch := omega) only [q_ckt, q_lt, q_cI, q_cJ, q_cV, q_cP, q_xI, q_xV, q_xP, q_xJ, g_gk, g_ga, g_gw, g_gp, g_gq, g_P, g_J, q_I_s, q_I_n, q_I_k, nI_add, pk_sub, pk_mul, nI_clamp, n_lt0, n_0lt, n_eq0, n_lt, n_le, n_eq, n_m1, n_m2, n_m9, n_12, n_19, n_10, n_01, n_1n1, n_0n1, n_1n0, n_0n0, n_dI, n_m1lt, q_inb, n_nar, n_nar0, n_nar1, n_bool, Bool.false_eq_true, Bool.true_eq_false, if_true, if_false, ↓reduceIte, Nat.reduceAdd, Nat.reduceMul, Nat.reduceSub, Nat.reduceLT, Nat.reduceLeDiff, Nat.reduceEqDiff, Nat.reduceMod, Nat.reduceDiv, q_R hp, d1]
  · rw [if_neg y0]
    by_cases y1 : x1 % 3 = 1
    · rw [if_pos y1]
      refine ⟨M3, ?_, (q1.tr q2).tr q3, fun k hk => ((k3 k hk).trans (k2 k hk)).trans (k1 k hk), g3⟩
      rw [y1] at d1
      rw [L_X12_season_51, if_pos hl]
      simp (disch := omega) only [q_ckt, q_lt, q_cI, q_cJ, q_cV, q_cP, q_xI, q_xV, q_xP, q_xJ, g_gk, g_ga, g_gw, g_gp, g_gq, g_P, g_J, q_I_s, q_I_n, q_I_k, nI_add, pk_sub, pk_mul, nI_clamp, n_lt0, n_0lt, n_eq0, n_lt, n_le, n_eq, n_m1, n_m2, n_m9, n_12, n_19, n_10, n_01, n_1n1, n_0n1, n_1n0, n_0n0, n_dI, n_m1lt, q_inb, n_nar, n_nar0, n_nar1, n_bool, Bool.false_eq_true, Bool.true_eq_false, if_true, if_false, ↓reduceIte, Nat.reduceAdd, Nat.reduceMul, Nat.reduceSub, Nat.reduceLT, Nat.reduceLeDiff, Nat.reduceEqDiff, Nat.reduceMod, Nat.reduceDiv, q_R hp, d1, q_R c1.1, r_pe c1, d2, q_R c2.1, r_go c2, d4]
    · rw [if_neg y1]
      refine ⟨M3, ?_, (q1.tr q2).tr q3, fun k hk => ((k3 k hk).trans (k2 k hk)).trans (k1 k hk), g3⟩
      have y2 : x1 % 3 = 2 := by omega
      rw [y2] at d1
      rw [L_X12_season_51, if_pos hl]
      simp (disch := omega) only [q_ckt, q_lt, q_cI, q_cJ, q_cV, q_cP, q_xI, q_xV, q_xP, q_xJ, g_gk, g_ga, g_gw, g_gp, g_gq, g_P, g_J, q_I_s, q_I_n, q_I_k, nI_add, pk_sub, pk_mul, nI_clamp, n_lt0, n_0lt, n_eq0, n_lt, n_le, n_eq, n_m1, n_m2, n_m9, n_12, n_19, n_10, n_01, n_1n1, n_0n1, n_1n0, n_0n0, n_dI, n_m1lt, q_inb, n_nar, n_nar0, n_nar1, n_bool, Bool.false_eq_true, Bool.true_eq_false, if_true, if_false, ↓reduceIte, Nat.reduceAdd, Nat.reduceMul, Nat.reduceSub, Nat.reduceLT, Nat.reduceLeDiff, Nat.reduceEqDiff, Nat.reduceMod, Nat.reduceDiv, q_R hp, d1, q_R c1.1, r_pe c1, d2, q_R c2.1, r_pe c2, d3]
end SN
section SO
variable {L : Nat} {xs : Nat → Int32}
theorem k_tt {x : Int32} : x.toInt64.toInt32 = x := by
  rw [← Int32.toInt_inj, Int64.toInt_toInt32, Int32.toInt_toInt64]
  have h1 := Int32.le_toInt x
  have h2 := Int32.toInt_lt x
  exact Int.bmod_eq_of_le (by omega) (by omega)
theorem S_season (a b : Int32) : q_St L xs (q_Iv L xs) (m_L_season 200 1 a b 436) (m_X12_season 200 412 a b) := by
  refine q_Sd_mk (x := m_X11_season 199 1 a b) (fun M => E_L_season 199 1 a b 436 M) fun M hp hI => ?_
  have hc := c_I_c hp hI.1
  have hr := c_I_r hp hI.1
  obtain ⟨hwf, hsc⟩ := hI.1
  generalize M.1 413 = K at hc hr hwf hsc ⊢
  have hb := k_bds hwf.1
  have hu := c_use hc
  have e30 : (30 : Int64).toInt = ((30 : Nat) : Int) := by decide +kernel
  by_cases hbk : 1 ≤ b.toInt ∧ b.toInt ≤ ((30 : Nat) : Int)
  · obtain ⟨y, hy1, hy2, rfl⟩ := k_one (by decide) hbk
    by_cases h0 : 0 < k_n K
    · -- each time
      have kn : ∀ i, k_wf (k_se K a i).1 → k_n (k_se K a i).1 = k_n K → k_wf (k_se K a (i + 1)).1 ∧ k_n (k_se K a (i + 1)).1 = k_n K := fun i hw hn => by
        rw [k_se]
        split
        · next q =>
          have hv : k_wy (k_kp (k_se K a i).1) (k_sd (k_se K a i).1 (k_se K a i).2.1).1.toInt64 = 0 := by rw [k_wy_kp hw.1]; exact q
          refine ⟨k_mk_wf (k_kp_wf hw) hv, ?_⟩
          show k_n (k_mk _ _).2 = _
          unfold k_n
          rw [(k_mk_o (k_kp_wf hw).1 hv).1 2 (by omega), k_kp_o (by omega)]
          exact hn
        · exact ⟨hw, hn⟩
      have kw : ∀ i, k_wf (k_se K a i).1 ∧ k_n (k_se K a i).1 = k_n K := fun i => by
        induction i with
        | zero => exact ⟨hwf, rfl⟩
        | succ i ih => exact kn i ih.1 ih.2
      have Lc := q_up (σ := ir_M) (V := fun x t => v_X11_season_53 198 1 (nI y) (nI (k_se K a x).2.2) (nI x) t) (N := y) (I := fun x t => q_dc M t ∧ c_sc t 3 (k_se K a x).1 ∧ ir_I t 1 19 = (k_se K a x).2.1 ∧ (0 < (k_se K a x).2.2 → ir_I t 121 0 = 0) ∧ ((k_se K a x).2.2 = 0 → q_st 0 M t)) (K := fun t => ir_oI (nI (k_se K a y).2.2) t) (by
        rintro x t hx ⟨hd, hs, h19, hz, hq⟩
        obtain ⟨wx, nx⟩ := kw x
        have hpt := hd.p hp
        have ct := c_sc_rl hpt wx.1 hs
        have le := k_se_le (K := K) (s := a) x
        obtain ⟨t1, e1, q1, f1, g1⟩ := c_sd (d := 196) ct (by omega) h19
        obtain ⟨st1, dc1⟩ := q_e1 hpt q1 f1
        have ct1 := q_st_c st1 ct
        have s1 : c_sc t1 3 (k_se K a x).1 := c_sc_fr (fun j hj h6 => q1.1 _ (by simp only [List.mem_cons, List.not_mem_nil, or_false]; omega)) hs
        have wy := c_why (d := 196) ct1 (k_sd (k_se K a x).1 (k_se K a x).2.1).1.toInt64
        have z1 : ir_I t1 121 0 = ir_I t 121 0 := congrFun (q1.1 121 (by decide)) 0
        rw [k_se]
        by_cases q : k_wy (k_se K a x).1 (k_sd (k_se K a x).1 (k_se K a x).2.1).1.toInt64 = 0
        · rw [if_pos q]
          dsimp only
          obtain ⟨t2, t3, e2, d2, e3, d3, o3, z3, s3, w3⟩ := c_kmk (d := 192) wx ct1.1 s1 q
          rw [k_tt] at e3
          rw [q] at wy
          have p2 := d2.p ct1.1
          refine ⟨t3, ⟨(hd.tr dc1).tr d3, s3, (congrFun o3 19).trans g1, fun _ => z3, fun h => absurd h (by omega)⟩, ?_⟩
          rw [L_X11_season_53]
          simp (disch := omega) only [q_ckt, q_lt, q_cI, q_cJ, q_cV, q_cP, q_xI, q_xV, q_xP, q_xJ, g_gk, g_ga, g_gw, g_gp, g_gq, g_P, g_J, q_I_s, q_I_n, q_I_k, nI_add, pk_sub, pk_mul, nI_clamp, n_lt0, n_0lt, n_eq0, n_lt, n_le, n_eq, n_m1, n_m2, n_m9, n_12, n_19, n_10, n_01, n_1n1, n_0n1, n_1n0, n_0n0, n_dI, n_m1lt, q_inb, n_nar, n_nar0, n_nar1, n_bool, Bool.false_eq_true, Bool.true_eq_false, if_true, if_false, ↓reduceIte, Nat.reduceAdd, Nat.reduceMul, Nat.reduceSub, Nat.reduceLT, Nat.reduceLeDiff, Nat.reduceEqDiff, Nat.reduceMod, Nat.reduceDiv, hx, q_W hpt, e1, q_W ct1.1, wy, e2, q_W p2, e3]
        · rw [if_neg q]
          dsimp only
          have := k_wy_le (K := (k_se K a x).1) (v := (k_sd (k_se K a x).1 (k_se K a x).2.1).1.toInt64)
          refine ⟨t1, ⟨hd.tr dc1, s1, g1, fun h => z1.trans (hz h), fun h => (hq h).tr st1⟩, ?_⟩
          rw [L_X11_season_53]
          simp (disch := omega) only [q_ckt, q_lt, q_cI, q_cJ, q_cV, q_cP, q_xI, q_xV, q_xP, q_xJ, g_gk, g_ga, g_gw, g_gp, g_gq, g_P, g_J, q_I_s, q_I_n, q_I_k, nI_add, pk_sub, pk_mul, nI_clamp, n_lt0, n_0lt, n_eq0, n_lt, n_le, n_eq, n_m1, n_m2, n_m9, n_12, n_19, n_10, n_01, n_1n1, n_0n1, n_1n0, n_0n0, n_dI, n_m1lt, q_inb, n_nar, n_nar0, n_nar1, n_bool, Bool.false_eq_true, Bool.true_eq_false, if_true, if_false, ↓reduceIte, Nat.reduceAdd, Nat.reduceMul, Nat.reduceSub, Nat.reduceLT, Nat.reduceLeDiff, Nat.reduceEqDiff, Nat.reduceMod, Nat.reduceDiv, hx, q_W hpt, e1, q_W ct1.1, wy, q]) (by
        rintro t ⟨hd, hs, h19, hz, hq⟩
        rw [L_X11_season_53]
        simp (disch := omega) only [q_ckt, q_lt, q_cI, q_cJ, q_cV, q_cP, q_xI, q_xV, q_xP, q_xJ, g_gk, g_ga, g_gw, g_gp, g_gq, g_P, g_J, q_I_s, q_I_n, q_I_k, nI_add, pk_sub, pk_mul, nI_clamp, n_lt0, n_0lt, n_eq0, n_lt, n_le, n_eq, n_m1, n_m2, n_m9, n_12, n_19, n_10, n_01, n_1n1, n_0n1, n_1n0, n_0n0, n_dI, n_m1lt, q_inb, n_nar, n_nar0, n_nar1, n_bool, Bool.false_eq_true, Bool.true_eq_false, if_true, if_false, ↓reduceIte, Nat.reduceAdd, Nat.reduceMul, Nat.reduceSub, Nat.reduceLT, Nat.reduceLeDiff, Nat.reduceEqDiff, Nat.reduceMod, Nat.reduceDiv, Nat.lt_irrefl]) (i := 0) (t := ir_sI M 1 19 a) (by omega) ⟨q_dc_1 (by omega), c_sc_fr (fun j hj h6 => if_neg (by omega)) hsc, q_I_s, fun h => absurd h (Nat.lt_irrefl 0), fun _ => q_st_1 hp (by omega)⟩
      obtain ⟨M1, ⟨d1, s1, -, z1, st1⟩, e1⟩ := Lc
      have ec : m_X11_season 199 1 a (nI y) M = ir_oI (nI (k_se K a y).2.2) M1 := by
        rw [E_X11_season 198]
        simp (disch := omega) only [q_ckt, q_lt, q_cI, q_cJ, q_cV, q_cP, q_xI, q_xV, q_xP, q_xJ, g_gk, g_ga, g_gw, g_gp, g_gq, g_P, g_J, q_I_s, q_I_n, q_I_k, nI_add, pk_sub, pk_mul, nI_clamp, n_lt0, n_0lt, n_eq0, n_lt, n_le, n_eq, n_m1, n_m2, n_m9, n_12, n_19, n_10, n_01, n_1n1, n_0n1, n_1n0, n_0n0, n_dI, n_m1lt, q_inb, n_nar, n_nar0, n_nar1, n_bool, Bool.false_eq_true, Bool.true_eq_false, if_true, if_false, ↓reduceIte, Nat.reduceAdd, Nat.reduceMul, Nat.reduceSub, Nat.reduceLT, Nat.reduceLeDiff, Nat.reduceEqDiff, Nat.reduceMod, Nat.reduceDiv, show ¬ y < 1 by omega, show ¬ 30 < y by omega, q_W hp, q_T hp, hu, show ¬ k_n K = 0 by omega]
        exact e1
      have rr : ∀ M', r_rl M' K → ∃ M2, m_X12_season 200 412 a (nI y) M' = ir_oI (nI (k_se K a y).2.2) M2 ∧ q_dr M' M2 ∧ (∀ k, ir_I M2 413 k = (k_se K a y).1 k) ∧ ir_I M2 412 4 = nI 0 ∧ ((k_se K a y).2.2 = 0 → q_st 0 M' M2) := fun M' hr' => by
        have h4 := r_4 (v := nI 0) hr'
        have Lr := q_up (σ := ir_M) (V := fun x t => v_X12_season_51 199 412 (nI y) (nI (k_se K a x).2.2) (nI x) t) (N := y) (I := fun x t => q_dr M' t ∧ r_rl t (k_se K a x).1 ∧ ir_I t 412 24 = (k_se K a x).2.1 ∧ ir_I t 412 4 = nI 0 ∧ ((k_se K a x).2.2 = 0 → q_st 0 M' t)) (K := fun t => ir_oI (nI (k_se K a y).2.2) t) (by
          rintro x t hx ⟨hd, hs, h24, h4', hq⟩
          obtain ⟨wx, nx⟩ := kw x
          have le := k_se_le (K := K) (s := a) x
          obtain ⟨t1, e1, q1, f1, g1⟩ := r_sd (d := 198) (w := nI y) (c := nI (k_se K a x).2.2) (l := nI x) hs (by omega) h24 (by rw [n_lt (by omega) (by omega)]; exact hx)
          obtain ⟨st1, dr1⟩ := q_e4 hs.1 q1 (fun k hk => f1 k (fun q => by rw [q] at hk; exact nomatch hk))
          have ct1 := r_rl_eq hs q1 (by decide)
          have wy := r_why (d := 196) ct1 (k_sd (k_se K a x).1 (k_se K a x).2.1).1.toInt64
          have g4 : ir_I t1 412 4 = nI 0 := (f1 4 (by decide)).trans h4'
          rw [k_se]
          by_cases q : k_wy (k_se K a x).1 (k_sd (k_se K a x).1 (k_se K a x).2.1).1.toInt64 = 0
          · rw [if_pos q]
            dsimp only
            obtain ⟨t2, t3, e2, q2, e3, q3, r3⟩ := r_kmk (d := 191) wx ct1 q
            rw [k_tt] at e3
            rw [q] at wy
            have p2 := q_PI_eq q2 ct1.1
            refine ⟨t3, ⟨(hd.tr dr1).tr (q_dr_eq q3 (by decide)), r3, (q_I_eq q3 (by decide) 24).trans g1, (q_I_eq q3 (by decide) 4).trans g4, fun h => absurd h (by omega)⟩, ?_⟩
            rw [e1, L_X12_season_137]
            simp (disch := omega) only [q_ckt, q_lt, q_cI, q_cJ, q_cV, q_cP, q_xI, q_xV, q_xP, q_xJ, g_gk, g_ga, g_gw, g_gp, g_gq, g_P, g_J, q_I_s, q_I_n, q_I_k, nI_add, pk_sub, pk_mul, nI_clamp, n_lt0, n_0lt, n_eq0, n_lt, n_le, n_eq, n_m1, n_m2, n_m9, n_12, n_19, n_10, n_01, n_1n1, n_0n1, n_1n0, n_0n0, n_dI, n_m1lt, q_inb, n_nar, n_nar0, n_nar1, n_bool, Bool.false_eq_true, Bool.true_eq_false, if_true, if_false, ↓reduceIte, Nat.reduceAdd, Nat.reduceMul, Nat.reduceSub, Nat.reduceLT, Nat.reduceLeDiff, Nat.reduceEqDiff, Nat.reduceMod, Nat.reduceDiv, q_R ct1.1, wy, e2, q_R p2, e3]
          · rw [if_neg q]
            dsimp only
            have := k_wy_le (K := (k_se K a x).1) (v := (k_sd (k_se K a x).1 (k_se K a x).2.1).1.toInt64)
            refine ⟨t1, ⟨hd.tr dr1, ct1, g1, g4, fun h => (hq h).tr st1⟩, ?_⟩
            rw [e1, L_X12_season_137]
            simp (disch := omega) only [q_ckt, q_lt, q_cI, q_cJ, q_cV, q_cP, q_xI, q_xV, q_xP, q_xJ, g_gk, g_ga, g_gw, g_gp, g_gq, g_P, g_J, q_I_s, q_I_n, q_I_k, nI_add, pk_sub, pk_mul, nI_clamp, n_lt0, n_0lt, n_eq0, n_lt, n_le, n_eq, n_m1, n_m2, n_m9, n_12, n_19, n_10, n_01, n_1n1, n_0n1, n_1n0, n_0n0, n_dI, n_m1lt, q_inb, n_nar, n_nar0, n_nar1, n_bool, Bool.false_eq_true, Bool.true_eq_false, if_true, if_false, ↓reduceIte, Nat.reduceAdd, Nat.reduceMul, Nat.reduceSub, Nat.reduceLT, Nat.reduceLeDiff, Nat.reduceEqDiff, Nat.reduceMod, Nat.reduceDiv, q_R ct1.1, wy, q]) (by
          rintro t ⟨hd, hs, h24, h4', hq⟩
          rw [L_X12_season_51]
          simp (disch := omega) only [q_ckt, q_lt, q_cI, q_cJ, q_cV, q_cP, q_xI, q_xV, q_xP, q_xJ, g_gk, g_ga, g_gw, g_gp, g_gq, g_P, g_J, q_I_s, q_I_n, q_I_k, nI_add, pk_sub, pk_mul, nI_clamp, n_lt0, n_0lt, n_eq0, n_lt, n_le, n_eq, n_m1, n_m2, n_m9, n_12, n_19, n_10, n_01, n_1n1, n_0n1, n_1n0, n_0n0, n_dI, n_m1lt, q_inb, n_nar, n_nar0, n_nar1, n_bool, Bool.false_eq_true, Bool.true_eq_false, if_true, if_false, ↓reduceIte, Nat.reduceAdd, Nat.reduceMul, Nat.reduceSub, Nat.reduceLT, Nat.reduceLeDiff, Nat.reduceEqDiff, Nat.reduceMod, Nat.reduceDiv, Nat.lt_irrefl]) (i := 0) (t := ir_sI (ir_sI M' 412 4 (nI 0)) 412 24 a) (by omega) ⟨(q_dr_4 rfl).tr (q_dr_4 rfl), q_st_r (q_st_4 h4.1 rfl) h4, q_I_s, by rw [q_I_k (by decide), q_I_s], fun _ => (q_st_4 hr'.1 rfl).tr (q_st_4 h4.1 rfl)⟩
        obtain ⟨M2, ⟨d2, r2, -, g4, st2⟩, e2⟩ := Lr
        refine ⟨M2, ?_, d2, r2.2.2, g4, st2⟩
        have wi : ((1 : Int64).toInt ≤ (nI y).toInt64.toInt ∧ (nI y).toInt64.toInt ≤ (30 : Int64).toInt) = True := by rw [k_rng60 e30]; exact eq_true hbk
        rw [E_X12_season 199]
        simp (disch := omega) only [q_ckt, q_lt, q_cI, q_cJ, q_cV, q_cP, q_xI, q_xV, q_xP, q_xJ, g_gk, g_ga, g_gw, g_gp, g_gq, g_P, g_J, q_I_s, q_I_n, q_I_k, nI_add, pk_sub, pk_mul, nI_clamp, n_lt0, n_0lt, n_eq0, n_lt, n_le, n_eq, n_m1, n_m2, n_m9, n_12, n_19, n_10, n_01, n_1n1, n_0n1, n_1n0, n_0n0, n_dI, n_m1lt, q_inb, n_nar, n_nar0, n_nar1, n_bool, Bool.false_eq_true, Bool.true_eq_false, if_true, if_false, ↓reduceIte, Nat.reduceAdd, Nat.reduceMul, Nat.reduceSub, Nat.reduceLT, Nat.reduceLeDiff, Nat.reduceEqDiff, Nat.reduceMod, Nat.reduceDiv, r_within, wi, q_R hr'.1, r_pe hr', show ¬ k_n K = 0 by omega, L_X12_season_29]
        exact e2
      by_cases q0 : (k_se K a y).2.2 = 0
      · refine Or.inr (Or.inl ⟨_, ⟨M1, ec, st1 q0⟩, fun M' s => ?_⟩)
        obtain ⟨M2, e2, d2, -, g4, st2⟩ := rr M' (q_st_r s hr)
        exact ⟨M2, e2, st2 q0, by rw [d2.2.2], g4⟩
      · refine Or.inl ⟨_, (k_se K a y).1, ⟨M1, ec, d1, z1 (by omega), s1⟩, (kw y).1, fun M' hr' => ?_⟩
        obtain ⟨M2, e2, d2, a2, g4, -⟩ := rr M' hr'
        exact ⟨M2, e2, d2, a2, g4⟩
    · refine Or.inr (Or.inr ⟨2, 2, by omega, by omega, ?_, fun _ => rfl, fun M' s => ⟨nI 0, _, ?_, q_st_4 s.1.1 (k := 4) (v := nI 2) rfl, rfl, q_I_s⟩⟩)
      · rw [E_X11_season 198]
        simp (disch := omega) only [q_ckt, q_lt, q_cI, q_cJ, q_cV, q_cP, q_xI, q_xV, q_xP, q_xJ, g_gk, g_ga, g_gw, g_gp, g_gq, g_P, g_J, q_I_s, q_I_n, q_I_k, nI_add, pk_sub, pk_mul, nI_clamp, n_lt0, n_0lt, n_eq0, n_lt, n_le, n_eq, n_m1, n_m2, n_m9, n_12, n_19, n_10, n_01, n_1n1, n_0n1, n_1n0, n_0n0, n_dI, n_m1lt, q_inb, n_nar, n_nar0, n_nar1, n_bool, Bool.false_eq_true, Bool.true_eq_false, if_true, if_false, ↓reduceIte, Nat.reduceAdd, Nat.reduceMul, Nat.reduceSub, Nat.reduceLT, Nat.reduceLeDiff, Nat.reduceEqDiff, Nat.reduceMod, Nat.reduceDiv, show ¬ y < 1 by omega, show ¬ 30 < y by omega, q_W hp, q_T hp, hu, show k_n K = 0 by omega]
      · have hr' := q_st_r s hr
        have wi : ((1 : Int64).toInt ≤ (nI y).toInt64.toInt ∧ (nI y).toInt64.toInt ≤ (30 : Int64).toInt) = True := by rw [k_rng60 e30]; exact eq_true hbk
        rw [E_X12_season 199]
        simp (disch := omega) only [q_ckt, q_lt, q_cI, q_cJ, q_cV, q_cP, q_xI, q_xV, q_xP, q_xJ, g_gk, g_ga, g_gw, g_gp, g_gq, g_P, g_J, q_I_s, q_I_n, q_I_k, nI_add, pk_sub, pk_mul, nI_clamp, n_lt0, n_0lt, n_eq0, n_lt, n_le, n_eq, n_m1, n_m2, n_m9, n_12, n_19, n_10, n_01, n_1n1, n_0n1, n_1n0, n_0n0, n_dI, n_m1lt, q_inb, n_nar, n_nar0, n_nar1, n_bool, Bool.false_eq_true, Bool.true_eq_false, if_true, if_false, ↓reduceIte, Nat.reduceAdd, Nat.reduceMul, Nat.reduceSub, Nat.reduceLT, Nat.reduceLeDiff, Nat.reduceEqDiff, Nat.reduceMod, Nat.reduceDiv, r_within, wi, q_R hr'.1, r_pe hr', show k_n K = 0 by omega, L_X12_season_29]
  · refine Or.inr (Or.inr ⟨3, 1, by omega, by omega, ?_, fun _ => rfl, fun M' s => ⟨nI 0, _, ?_, q_st_4 s.1.1 (k := 4) (v := nI 1) rfl, rfl, q_I_s⟩⟩)
    · rw [E_X11_season 198]
      by_cases q : b < nI 1
      · rw [if_pos q]
      · rw [if_neg q, if_pos ?_]
        rw [k_cn (by decide)]
        rw [k_c1n] at q
        omega
    · have hr' := q_st_r s hr
      have wi : ((1 : Int64).toInt ≤ b.toInt64.toInt ∧ b.toInt64.toInt ≤ (30 : Int64).toInt) = False := by rw [k_rng60 e30]; exact eq_false hbk
      rw [E_X12_season 199]
      simp (disch := omega) only [q_ckt, q_lt, q_cI, q_cJ, q_cV, q_cP, q_xI, q_xV, q_xP, q_xJ, g_gk, g_ga, g_gw, g_gp, g_gq, g_P, g_J, q_I_s, q_I_n, q_I_k, nI_add, pk_sub, pk_mul, nI_clamp, n_lt0, n_0lt, n_eq0, n_lt, n_le, n_eq, n_m1, n_m2, n_m9, n_12, n_19, n_10, n_01, n_1n1, n_0n1, n_1n0, n_0n0, n_dI, n_m1lt, q_inb, n_nar, n_nar0, n_nar1, n_bool, Bool.false_eq_true, Bool.true_eq_false, if_true, if_false, ↓reduceIte, Nat.reduceAdd, Nat.reduceMul, Nat.reduceSub, Nat.reduceLT, Nat.reduceLeDiff, Nat.reduceEqDiff, Nat.reduceMod, Nat.reduceDiv, r_within, wi, q_R hr'.1, L_X12_season_29]
end SO
