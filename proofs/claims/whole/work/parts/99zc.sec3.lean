/-! secrets, the class: ways -/
def k_os2 (o : Nat → Nat) : Nat → Nat → List Nat
  | _, 0 => []
  | x, r + 1 => o x :: k_os2 o (x + 1) r
theorem k_os2_len {o : Nat → Nat} : ∀ r x, (k_os2 o x r).length = r
  | 0, _ => rfl
  | r + 1, x => by
    show (k_os2 o (x + 1) r).length + 1 = r + 1
    rw [k_os2_len r]
theorem k_os2_g {o : Nat → Nat} : ∀ r x i, i < r → (k_os2 o x r).getD i 0 = o (x + i)
  | 0, _, i, h => absurd h (by omega)
  | r + 1, x, 0, _ => rfl
  | r + 1, x, i + 1, h => by
    show (k_os2 o (x + 1) r).getD i 0 = _
    rw [k_os2_g r (x + 1) i (by omega), show x + 1 + i = x + (i + 1) by omega]
theorem k_os2_z {o g : Nat → Nat} : ∀ r x, k_os2 (fun i => o i &&& g i) x r = List.zipWith (fun a b => a &&& b) (k_os2 o x r) (k_os2 g x r)
  | 0, _ => rfl
  | r + 1, x => by
    show (o x &&& g x) :: k_os2 (fun i => o i &&& g i) (x + 1) r = (o x &&& g x) :: _
    rw [k_os2_z r]
theorem k_os2_cg {o g : Nat → Nat} : ∀ r x, (∀ i, x ≤ i → i < x + r → o i = g i) → k_os2 o x r = k_os2 g x r
  | 0, _, _ => rfl
  | r + 1, x, h => by
    show o x :: k_os2 o (x + 1) r = g x :: _
    rw [h x (by omega) (by omega), k_os2_cg r (x + 1) (fun i h1 h2 => h i (by omega) (by omega))]
theorem k_prd_e {os : List Nat} {i : Nat} (hi : i < os.length) (h : os.getD i 0 = 0) (P : List Nat → Bool) : k_cnt P (k_prd os) = 0 := by
  rcases Nat.eq_zero_or_pos (k_cnt P (k_prd os)) with q | q
  · exact q
  · obtain ⟨a, ha, -⟩ := k_cnt_pos.mp q
    have := ((k_prd_mem.mp ha).2 i hi).2
    rw [h, Nat.zero_testBit] at this
    exact nomatch this
theorem n_ix : ∀ u, u < 8 → ∀ w, w < 8 → ((((nI u + (-2)) - (-2 : Int32)) * nI 8) + (nI w + (-2))) - (-2 : Int32) = nI (u * 8 + w) := by decide +kernel
theorem k_and255 {a : Nat} (h : a < 256) : a &&& 255 = a := k_bit_eq fun i => by
  rw [Nat.testBit_and]
  cases e : a.testBit i
  · rfl
  · have : i < 8 := by
      rcases Nat.lt_or_ge i 8 with q | q
      · exact q
      · rw [k_256 h q] at e; exact nomatch e
    have h8 : ∀ i, i < 8 → (255 : Nat).testBit i = true := by decide
    rw [h8 i this]; rfl
/-- the frame of all of it -/
def q_cs (M M' : ir_M) : Prop := q_PI M' ∧ (∀ a, a ≠ 117 → a ≠ 134 → a ≠ 135 → M'.1 a = M.1 a) ∧ (∀ a, a ≠ 138 → a ≠ 139 → M'.2.1 a = M.2.1 a) ∧ (∀ a, a ≠ 133 → M'.2.2.1 a = M.2.2.1 a) ∧ (∀ k, k ≠ 4 → k ≠ 5 → M'.2.2.1 133 k = M.2.2.1 133 k) ∧ M'.2.2.2 = M.2.2.2
theorem q_cs.tr {A B C : ir_M} (h : q_cs A B) (g : q_cs B C) : q_cs A C := ⟨g.1, fun a h1 h2 h3 => (g.2.1 a h1 h2 h3).trans (h.2.1 a h1 h2 h3), fun a h1 h2 => (g.2.2.1 a h1 h2).trans (h.2.2.1 a h1 h2), fun a ha => (g.2.2.2.1 a ha).trans (h.2.2.2.1 a ha), fun k h1 h2 => (g.2.2.2.2.1 k h1 h2).trans (h.2.2.2.2.1 k h1 h2), g.2.2.2.2.2.trans h.2.2.2.2.2⟩
theorem q_cs.rf {M : ir_M} (hp : q_PI M) : q_cs M M := ⟨hp, fun _ _ _ _ => rfl, fun _ _ _ => rfl, fun _ _ => rfl, fun _ _ _ => rfl, rfl⟩
theorem q_ws.cs {M M' : ir_M} (h : q_ws M M') : q_cs M M' := ⟨h.1, fun a _ _ _ => by rw [h.2.1], h.2.2.1, h.2.2.2.1, h.2.2.2.2.1, h.2.2.2.2.2⟩
theorem q_cs_eq {S : List Nat} {M M' : ir_M} (hp : q_PI M) (h : q_eq S M M') (hS : ∀ a ∈ S, a = 117 ∨ a = 134 ∨ a = 135) : q_cs M M' := ⟨q_PI_eq h hp, fun a h1 h2 h3 => h.1 a (fun q => by rcases hS a q with w | w | w; exact h1 w; exact h2 w; exact h3 w), fun a _ _ => by rw [h.2], fun a _ => by rw [h.2], fun k _ _ => by rw [h.2], by rw [h.2]⟩
theorem q_cs.st {M M' : ir_M} (h : q_cs M M') : q_st 0 M M' := by
  obtain ⟨h1, h2, h3, h4, h5, h6⟩ := h
  refine ⟨⟨h1, fun a ha => ⟨h2 a (by omega) (by omega) (by omega), h3 a (by omega) (by omega), h4 a (by omega)⟩, ?_, ?_⟩, fun a ha => h2 a (fun q => by rw [q] at ha; exact nomatch ha) (fun q => by rw [q] at ha; exact nomatch ha) (fun q => by rw [q] at ha; exact nomatch ha), ⟨fun a k ha => congrFun (h2 a (fun q => by rw [q] at ha; exact nomatch ha) (fun q => by rw [q] at ha; exact nomatch ha) (fun q => by rw [q] at ha; exact nomatch ha)) k, fun a ha => h3 a (fun q => by rw [q] at ha; exact nomatch ha) (fun q => by rw [q] at ha; exact nomatch ha)⟩, fun a k ha => congrFun (h2 a (fun q => by rw [q] at ha; exact nomatch ha) (fun q => by rw [q] at ha; exact nomatch ha) (fun q => by rw [q] at ha; exact nomatch ha)) k⟩
  · show M'.2.2.2.2.1 ≤ M.2.2.2.2.1 + 0
    rw [h6]
    exact Nat.le_refl _
  · show M'.2.2.2.2.2.1 ≤ M.2.2.2.2.2.1 + 6 * 0
    rw [h6]
    exact Nat.le_refl _
theorem c_sec_cs {K N : Nat → Int32} {M M' : ir_M} (h : c_sec2 K N M) (w : q_cs M M') : c_sec2 K N M' := ⟨q_st_c w.st h.1, ⟨(w.2.2.2.2.1 6 (by decide) (by decide)).trans h.2.1.1, (w.2.2.2.2.1 7 (by decide) (by decide)).trans h.2.1.2.1, (w.2.2.2.2.1 8 (by decide) (by decide)).trans h.2.1.2.2⟩, fun i hi => (congrFun (w.2.1 137 (by decide) (by decide) (by decide)) i).trans (h.2.2.1 i hi), fun i hi => (congrFun (w.2.1 136 (by decide) (by decide) (by decide)) i).trans (h.2.2.2 i hi)⟩
section SB
variable {K N : Nat → Int32} {M : ir_M} {d : Nat} {o : Nat → Nat}
theorem c_wb (h : c_sec2 K N M) {l : Nat} (hl : l = 134 ∨ l = 135) (ho : ∀ i, i < k_m K → ir_I M l i = nI (o i) ∧ o i < 256) {t u w : Nat} (ht : t < 8) (hu : u < 8) (hw : w < 8) (hL : 0 < k_m K → ir_I M 117 0 = k_cv t ∧ ir_I M 117 1 = k_cv u ∧ ir_I M 117 2 = k_cv w) : ∃ M', m_X6_waysBehind (d + 4) 133 l M = ir_oJ (Int64.ofNat (k_G (k_m K) N (k_y K) (k_os2 o 0 (k_m K)) 0 t u w)) M' ∧ q_ws M M' := by
  have hk := h.1.2.2.1
  have hb := k_bds hk
  by_cases m0 : k_m K = 0
  · refine ⟨M, ?_, q_ws.rf h.1.1⟩
    rw [m0]
    have e : k_G 0 N (k_y K) (k_os2 o 0 0) 0 t u w = 1 := by
      unfold k_G k_F
      rw [decide_eq_true (Nat.le_refl 0), Bool.true_or, if_pos rfl]
      rfl
    have u6 : ir_I M 12 0 = nI 0 := (c_use h.1).2.2.2.2.2.1.trans (by rw [m0])
    rw [e, E_X6_waysBehind]
    simp (disch := omega) only [q_ckt, q_lt, q_cI, q_cJ, q_cV, q_cP, q_xI, q_xV, q_xP, q_xJ, g_gk, g_ga, g_gw, g_gp, g_gq, g_P, g_J, q_I_s, q_I_n, q_I_k, nI_add, pk_sub, pk_mul, nI_clamp, n_lt0, n_0lt, n_eq0, n_lt, n_le, n_eq, n_m1, n_m2, n_m9, n_12, n_19, n_10, n_01, n_1n1, n_0n1, n_1n0, n_0n0, n_dI, n_m1lt, q_inb, n_nar, n_nar0, n_nar1, n_bool, Bool.false_eq_true, Bool.true_eq_false, if_true, if_false, ↓reduceIte, Nat.reduceAdd, Nat.reduceMul, Nat.reduceSub, Nat.reduceLT, Nat.reduceLeDiff, Nat.reduceEqDiff, Nat.reduceMod, Nat.reduceDiv, c_spg h.1.1 h.2.1, q_S h.1.1 (a := 12) (by decide), u6]
    rfl
  · obtain ⟨l0, l1, l2⟩ := hL (by omega)
    have fo : m_X0_fallOf (d + 3) (nI (k_y K)) (k_cv t) (k_cv u) (k_cv w) M = ir_oI (k_f3 (k_y K) t u w) M := c_fo (d := d + 2) (by omega)
    have fi := c_fits (d := d + 2) h (show 0 < 100 by omega) (k_f3 (k_y K) t u w)
    unfold k_G
    by_cases qf : k_F (k_m K) N 0 (k_f3 (k_y K) t u w) = true
    · rw [if_pos qf] at fi ⊢
      obtain ⟨A, B, hAB, h4, h5⟩ := k_AB_of h.1.1
      obtain ⟨M5, e5, a1, a2, a3, a4⟩ := k_AB_f (d := d + 2) hAB h.1.1
      have w5 := q_ws_J hAB h.1.1 a1 a2 a3
      have s5 := c_sec_ws h w5
      have p5 : ir_P M5 133 4 = A := by unfold ir_P at h4 ⊢; rw [a2]; exact h4
      have p5b : ir_P M5 133 5 = B := by unfold ir_P at h5 ⊢; rw [a2]; exact h5
      obtain ⟨M6, e6⟩ : ∃ N, N = ir_sJ M5 A (u * 8 + w) 1 := ⟨_, rfl⟩
      have w6 : q_ws M5 M6 := by rw [e6]; exact q_ws_J hAB s5.1.1 rfl rfl (fun b hb' => if_neg hb')
      have ph6 : ∀ g : Nat → Nat → Nat, k_phi M6 g = Int64.ofNat (g u w) := fun g => by
        have p6 : ir_P M6 133 4 = A := by rw [e6]; exact p5
        unfold k_phi
        rw [p6]
        refine (k_sj_cg _ (g := fun q => (if q = u * 8 + w then (0 : Int64) + 1 else 0) * Int64.ofNat (g (q / 8) (q % 8))) fun q hq => ?_).trans ?_
        · rw [e6, s_J]
          by_cases z : q = u * 8 + w
          · rw [if_pos z, if_pos z]
            rfl
          · rw [if_neg z, if_neg z, a4 q hq]
        · rw [k_sj_upd (c := fun _ => 0) (q := u * 8 + w) (x := 1) 64, if_pos (by omega), show (u * 8 + w) / 8 = u by omega, show (u * 8 + w) % 8 = w by omega]
          rw [show k_sj (fun i => (fun _ => (0 : Int64)) i * Int64.ofNat (g (i / 8) (i % 8))) 64 = 0 from (k_sj_cg _ (g := fun _ => 0) fun i _ => Int64.zero_mul).trans (k_sj_0 64), Int64.zero_add, Int64.one_mul]
      have oM : ∀ t', q_ws M5 t' → ∀ i, i < k_m K → ir_I t' l i = nI (o i) ∧ o i < 256 := fun t' ht' i hi => ⟨by rw [q_ws_I ht', q_ws_I w5]; exact (ho i hi).1, (ho i hi).2⟩
      have L := q_up (σ := ir_M) (V := fun x t' => v_X6_waysBehind_103 (d + 3) 133 l (nI x) t') (N := k_m K) (I := fun x t' => q_ws M5 t' ∧ k_phi t' (k_H (k_m K) N (k_y K) (k_os2 o x (k_m K - x)) x) = Int64.ofNat (k_H (k_m K) N (k_y K) (k_os2 o 0 (k_m K)) 0 u w)) (K := fun t' => v_X6_waysBehind_103 (d + 3) 133 l (nI (k_m K)) t') (by
        rintro x t' hx ⟨hw', hph⟩
        have st' := c_sec_ws s5 hw'
        obtain ⟨ox1, ox2⟩ := oM t' hw' x hx
        obtain ⟨t1, e1, w1, p1⟩ := c_sn (d := d) st' (show x < 8 by omega) ox2
        refine ⟨t1, ⟨hw'.tr w1, ?_⟩, ?_⟩
        · rw [p1, ← hph, show k_m K - x = (k_m K - (x + 1)) + 1 by omega]
          rfl
        · have ga : ∀ i, ir_ga t' l 100 i = ir_inb i 8 := by
            rcases hl with rfl | rfl
            · exact q_a134 st'.1.1
            · exact q_a135 st'.1.1
          rw [L_X6_waysBehind_103]
          simp (disch := omega) only [q_ckt, q_lt, q_cI, q_cJ, q_cV, q_cP, q_xI, q_xV, q_xP, q_xJ, g_gk, g_ga, g_gw, g_gp, g_gq, g_P, g_J, q_I_s, q_I_n, q_I_k, nI_add, pk_sub, pk_mul, nI_clamp, n_lt0, n_0lt, n_eq0, n_lt, n_le, n_eq, n_m1, n_m2, n_m9, n_12, n_19, n_10, n_01, n_1n1, n_0n1, n_1n0, n_0n0, n_dI, n_m1lt, q_inb, n_nar, n_nar0, n_nar1, n_bool, Bool.false_eq_true, Bool.true_eq_false, if_true, if_false, ↓reduceIte, Nat.reduceAdd, Nat.reduceMul, Nat.reduceSub, Nat.reduceLT, Nat.reduceLeDiff, Nat.reduceEqDiff, Nat.reduceMod, Nat.reduceDiv, c_spg st'.1.1 st'.2.1, q_S st'.1.1 (a := 12) (by decide), c_use st'.1, hx, ga, ox1, q_E st'.1.1, e1]) (fun _ _ => rfl) (i := 0) (t := M6) (by omega) ⟨w6, by rw [ph6, Nat.sub_zero]⟩
      obtain ⟨M7, ⟨w7, ph7⟩, e7⟩ := L
      have s7 := c_sec_ws s5 w7
      obtain ⟨A7, B7, hAB7, h47, h57⟩ := k_AB_of s7.1.1
      have g7 := k_ABg hAB7 s7.1.1
      have pp7 := k_ABp hAB7 s7.1.1 h47 h57
      have L2 := q_up (σ := ir_M) (V := fun x t' => v_X6_waysBehind_133 (d + 3) 133 (k_sj (fun q => ir_J M7 A7 q) x) (nI x) t') (N := 64) (I := fun _ t' => t' = M7) (K := fun t' => ir_oJ (k_sj (fun q => ir_J M7 A7 q) 64) t') (by
        rintro x t' hx rfl
        refine ⟨t', rfl, ?_⟩
        rw [L_X6_waysBehind_133]
        simp (disch := omega) only [q_ckt, q_lt, q_cI, q_cJ, q_cV, q_cP, q_xI, q_xV, q_xP, q_xJ, g_gk, g_ga, g_gw, g_gp, g_gq, g_P, g_J, q_I_s, q_I_n, q_I_k, nI_add, pk_sub, pk_mul, nI_clamp, n_lt0, n_0lt, n_eq0, n_lt, n_le, n_eq, n_m1, n_m2, n_m9, n_12, n_19, n_10, n_01, n_1n1, n_0n1, n_1n0, n_0n0, n_dI, n_m1lt, q_inb, n_nar, n_nar0, n_nar1, n_bool, Bool.false_eq_true, Bool.true_eq_false, if_true, if_false, ↓reduceIte, Nat.reduceAdd, Nat.reduceMul, Nat.reduceSub, Nat.reduceLT, Nat.reduceLeDiff, Nat.reduceEqDiff, Nat.reduceMod, Nat.reduceDiv, hx, pp7, g7]
        rfl) (by
        rintro t' rfl
        rw [L_X6_waysBehind_133]
        simp (disch := omega) only [q_ckt, q_lt, q_cI, q_cJ, q_cV, q_cP, q_xI, q_xV, q_xP, q_xJ, g_gk, g_ga, g_gw, g_gp, g_gq, g_P, g_J, q_I_s, q_I_n, q_I_k, nI_add, pk_sub, pk_mul, nI_clamp, n_lt0, n_0lt, n_eq0, n_lt, n_le, n_eq, n_m1, n_m2, n_m9, n_12, n_19, n_10, n_01, n_1n1, n_0n1, n_1n0, n_0n0, n_dI, n_m1lt, q_inb, n_nar, n_nar0, n_nar1, n_bool, Bool.false_eq_true, Bool.true_eq_false, if_true, if_false, ↓reduceIte, Nat.reduceAdd, Nat.reduceMul, Nat.reduceSub, Nat.reduceLT, Nat.reduceLeDiff, Nat.reduceEqDiff, Nat.reduceMod, Nat.reduceDiv]) (i := 0) (t := M7) (by omega) rfl
      obtain ⟨t7, rfl, e8⟩ := L2
      have sum7 : k_sj (fun q => ir_J t7 A7 q) 64 = Int64.ofNat (k_H (k_m K) N (k_y K) (k_os2 o 0 (k_m K)) 0 u w) := by
        rw [← ph7, Nat.sub_self]
        unfold k_phi
        rw [h47]
        refine k_sj_cg _ fun q _ => ?_
        show _ = _ * Int64.ofNat 1
        rw [show Int64.ofNat 1 = 1 from rfl, Int64.mul_one]
      refine ⟨t7, ?_, (w5.tr w7)⟩
      have l1' : ir_I M5 117 1 = nI u + (-2) := by rw [q_ws_I w5]; exact l1
      have l2' : ir_I M5 117 2 = nI w + (-2) := by rw [q_ws_I w5]; exact l2
      rw [E_X6_waysBehind]
      simp (disch := omega) only [q_ckt, q_lt, q_cI, q_cJ, q_cV, q_cP, q_xI, q_xV, q_xP, q_xJ, g_gk, g_ga, g_gw, g_gp, g_gq, g_P, g_J, q_I_s, q_I_n, q_I_k, nI_add, pk_sub, pk_mul, nI_clamp, n_lt0, n_0lt, n_eq0, n_lt, n_le, n_eq, n_m1, n_m2, n_m9, n_12, n_19, n_10, n_01, n_1n1, n_0n1, n_1n0, n_0n0, n_dI, n_m1lt, q_inb, n_nar, n_nar0, n_nar1, n_bool, Bool.false_eq_true, Bool.true_eq_false, if_true, if_false, ↓reduceIte, Nat.reduceAdd, Nat.reduceMul, Nat.reduceSub, Nat.reduceLT, Nat.reduceLeDiff, Nat.reduceEqDiff, Nat.reduceMod, Nat.reduceDiv, c_spg h.1.1 h.2.1, q_S h.1.1 (a := 12) (by decide), c_use h.1, m0, q_T h.1.1, q_F h.1.1, l0, l1, l2, fo, q_E h.1.1, fi, k_ABp hAB h.1.1 h4 h5, e5, k_ABp hAB s5.1.1 p5 p5b, c_spg s5.1.1 s5.2.1, q_F s5.1.1, l1', l2', n_ix u hu w hw, k_ABg hAB s5.1.1]
      rw [← e6, e7, L_X6_waysBehind_103]
      simp (disch := omega) only [q_ckt, q_lt, q_cI, q_cJ, q_cV, q_cP, q_xI, q_xV, q_xP, q_xJ, g_gk, g_ga, g_gw, g_gp, g_gq, g_P, g_J, q_I_s, q_I_n, q_I_k, nI_add, pk_sub, pk_mul, nI_clamp, n_lt0, n_0lt, n_eq0, n_lt, n_le, n_eq, n_m1, n_m2, n_m9, n_12, n_19, n_10, n_01, n_1n1, n_0n1, n_1n0, n_0n0, n_dI, n_m1lt, q_inb, n_nar, n_nar0, n_nar1, n_bool, Bool.false_eq_true, Bool.true_eq_false, if_true, if_false, ↓reduceIte, Nat.reduceAdd, Nat.reduceMul, Nat.reduceSub, Nat.reduceLT, Nat.reduceLeDiff, Nat.reduceEqDiff, Nat.reduceMod, Nat.reduceDiv, c_spg s7.1.1 s7.2.1, q_S s7.1.1 (a := 12) (by decide), c_use s7.1, Nat.lt_irrefl]
      rw [← sum7]
      exact e8
    · rw [if_neg qf] at fi ⊢
      refine ⟨M, ?_, q_ws.rf h.1.1⟩
      rw [E_X6_waysBehind]
      simp (disch := omega) only [q_ckt, q_lt, q_cI, q_cJ, q_cV, q_cP, q_xI, q_xV, q_xP, q_xJ, g_gk, g_ga, g_gw, g_gp, g_gq, g_P, g_J, q_I_s, q_I_n, q_I_k, nI_add, pk_sub, pk_mul, nI_clamp, n_lt0, n_0lt, n_eq0, n_lt, n_le, n_eq, n_m1, n_m2, n_m9, n_12, n_19, n_10, n_01, n_1n1, n_0n1, n_1n0, n_0n0, n_dI, n_m1lt, q_inb, n_nar, n_nar0, n_nar1, n_bool, Bool.false_eq_true, Bool.true_eq_false, if_true, if_false, ↓reduceIte, Nat.reduceAdd, Nat.reduceMul, Nat.reduceSub, Nat.reduceLT, Nat.reduceLeDiff, Nat.reduceEqDiff, Nat.reduceMod, Nat.reduceDiv, c_spg h.1.1 h.2.1, q_S h.1.1 (a := 12) (by decide), c_use h.1, m0, q_T h.1.1, q_F h.1.1, l0, l1, l2, fo, q_E h.1.1, fi]
      rfl
/-! guesses -/
def k_pr2 (m b : Nat) : Nat := (3 * m - b) % m
def k_gm (m G i : Nat) : Nat := (if i = k_pr2 m 1 then 2 ^ (G % 8) else 255) &&& ((if i = k_pr2 m 2 then 2 ^ (G / 8 % 8) else 255) &&& (if i = k_pr2 m 3 then 2 ^ (G / 8 / 8 % 8) else 255))
theorem n_r8 : ∀ R, R < 512 → nI R / nI 8 = nI (R / 8) ∧ nI R - nI R / nI 8 * nI 8 = nI (R % 8) := by decide +kernel
theorem n_pr : ∀ b, b < 4 → ∀ m, m < 9 → 0 < m → 0 < b → ((nI 3 * nI m) - nI b) - ((nI 3 * nI m) - nI b) / nI m * nI m = nI ((3 * m - b) % m) := by decide +kernel
theorem c_pr2 {m b : Nat} (hm : 0 < m) (h8 : m ≤ 8) (hb : 0 < b) (h3 : b < 4) : m_X0_placeRound (d + 1) (nI b) (nI m) M = ir_oI (nI (k_pr2 m b)) M := by
  have e := n_pr b h3 m (by omega) hm hb
  rw [E_X0_placeRound]
  have : nI 3 * nI m = nI 3 * nI m := rfl
  rw [if_pos (by rw [n_0lt (by omega)]; exact hm), n_dI hm (by omega), e]
  rfl
theorem c_tg1 (h : c_sec2 K N M) (hm : 0 < k_m K) {g : Nat → Nat} (hg : ∀ i, i < 8 → i < k_m K → ir_I M 135 i = nI (g i) ∧ g i < 256) {b R : Nat} (hb : 0 < b) (h3 : b < 4) (hR : R < 512) : ∃ M3, q_eq [117, 135] M M3 ∧ (∀ j, j ≠ 3 - b → ir_I M3 117 j = ir_I M 117 j) ∧ (∀ i, i < k_m K → ir_I M3 135 i = nI (g i &&& (if i = k_pr2 (k_m K) b then 2 ^ (R % 8) else 255))) ∧ (g (k_pr2 (k_m K) b) &&& 2 ^ (R % 8) = 0 → v_X6_takeGuess_19 (d + 1) 133 (nI R) (nI b) M = ir_oI (nI 0) M3) ∧ (g (k_pr2 (k_m K) b) &&& 2 ^ (R % 8) ≠ 0 → ir_I M3 117 (3 - b) = k_cv (R % 8) ∧ v_X6_takeGuess_19 (d + 1) 133 (nI R) (nI b) M = v_X6_takeGuess_19 (d + 1) 133 (nI (R / 8)) (nI (b + 1)) M3) := by
  have hk := h.1.2.2.1
  have hbd := k_bds hk
  have pr := c_pr2 (M := M) (d := d) hm (by omega) hb h3
  obtain ⟨p, ep⟩ : ∃ p, p = k_pr2 (k_m K) b := ⟨_, rfl⟩
  have hp : p < k_m K := by rw [ep]; exact Nat.mod_lt _ hm
  rw [← ep] at pr ⊢
  obtain ⟨gp1, gp2⟩ := hg p (by omega) hp
  obtain ⟨r1, r2⟩ := n_r8 R hR
  have v8 : R % 8 < 8 := Nat.mod_lt _ (by decide)
  have al : g p &&& 2 ^ (R % 8) < 256 := Nat.lt_of_le_of_lt Nat.and_le_left gp2
  obtain ⟨M2, e2⟩ : ∃ N, N = ir_sI M 135 p (nI (g p &&& 2 ^ (R % 8))) := ⟨_, rfl⟩
  have i2 : ∀ i, i < k_m K → ir_I M2 135 i = nI (g i &&& (if i = p then 2 ^ (R % 8) else 255)) := fun i hi => by
    rw [e2, q_I_u]
    by_cases q : i = p
    · rw [if_pos q, if_pos q, q]
    · rw [if_neg q, if_neg q, k_and255 (hg i (by omega) hi).2]
      exact (hg i (by omega) hi).1
  by_cases q0 : g p &&& 2 ^ (R % 8) = 0
  · refine ⟨M2, by rw [e2]; exact q_eq.sI (by decide), fun j _ => by rw [e2, q_I_n (by decide)], i2, fun _ => ?_, fun w => absurd q0 w⟩
    rw [L_X6_takeGuess_19]
    simp (disch := omega) only [q_ckt, q_lt, q_cI, q_cJ, q_cV, q_cP, q_xI, q_xV, q_xP, q_xJ, g_gk, g_ga, g_gw, g_gp, g_gq, g_P, g_J, q_I_s, q_I_n, q_I_k, nI_add, pk_sub, pk_mul, nI_clamp, n_lt0, n_0lt, n_eq0, n_lt, n_le, n_eq, n_m1, n_m2, n_m9, n_12, n_19, n_10, n_01, n_1n1, n_0n1, n_1n0, n_0n0, n_dI, n_m1lt, q_inb, n_nar, n_nar0, n_nar1, n_bool, Bool.false_eq_true, Bool.true_eq_false, if_true, if_false, ↓reduceIte, Nat.reduceAdd, Nat.reduceMul, Nat.reduceSub, Nat.reduceLT, Nat.reduceLeDiff, Nat.reduceEqDiff, Nat.reduceMod, Nat.reduceDiv, show ¬ 3 < b by omega, c_spg h.1.1 h.2.1, q_S h.1.1 (a := 12) (by decide), c_use h.1, pr, q_E h.1.1, gp1, r1, r2, (show R - R / 8 * 8 = R % 8 by omega), n_bit, n_and, q0]
    rw [e2, q0]
  · refine ⟨ir_sI M2 117 (3 - b) (k_cv (R % 8)), by rw [e2]; exact (q_eq.sI (by decide)).tr (q_eq.sI (by decide)), fun j hj => by rw [q_I_k hj, e2, q_I_n (by decide)], fun i hi => by rw [q_I_n (by decide)]; exact i2 i hi, fun w => absurd w q0, fun _ => ⟨q_I_s, ?_⟩⟩
    rw [L_X6_takeGuess_19]
    simp (disch := omega) only [q_ckt, q_lt, q_cI, q_cJ, q_cV, q_cP, q_xI, q_xV, q_xP, q_xJ, g_gk, g_ga, g_gw, g_gp, g_gq, g_P, g_J, q_I_s, q_I_n, q_I_k, nI_add, pk_sub, pk_mul, nI_clamp, n_lt0, n_0lt, n_eq0, n_lt, n_le, n_eq, n_m1, n_m2, n_m9, n_12, n_19, n_10, n_01, n_1n1, n_0n1, n_1n0, n_0n0, n_dI, n_m1lt, q_inb, n_nar, n_nar0, n_nar1, n_bool, Bool.false_eq_true, Bool.true_eq_false, if_true, if_false, ↓reduceIte, Nat.reduceAdd, Nat.reduceMul, Nat.reduceSub, Nat.reduceLT, Nat.reduceLeDiff, Nat.reduceEqDiff, Nat.reduceMod, Nat.reduceDiv, show ¬ 3 < b by omega, c_spg h.1.1 h.2.1, q_S h.1.1 (a := 12) (by decide), c_use h.1, pr, q_E h.1.1, gp1, r1, r2, (show R - R / 8 * 8 = R % 8 by omega), n_bit, n_and, q0, q_F h.1.1]
    rw [e2]
    rfl
theorem c_tg (h : c_sec2 K N M) (hm : 0 < k_m K) (ho : ∀ i, i < k_m K → ir_I M 134 i = nI (o i) ∧ o i < 256) {G : Nat} (hG : G < 512) : ∃ M' b, m_X6_takeGuess (d + 2) 133 (nI G) M = ir_oI (if b = true then nI 1 else nI 0) M' ∧ q_eq [117, 135] M M' ∧ (b = true → ir_I M' 117 2 = k_cv (G % 8) ∧ ir_I M' 117 1 = k_cv (G / 8 % 8) ∧ ir_I M' 117 0 = k_cv (G / 8 / 8 % 8) ∧ ∀ i, i < k_m K → ir_I M' 135 i = nI (o i &&& k_gm (k_m K) G i) ∧ o i &&& k_gm (k_m K) G i < 256) ∧ (b = false → ∃ i, i < k_m K ∧ o i &&& k_gm (k_m K) G i = 0) := by
  have hk := h.1.2.2.1
  have hbd := k_bds hk
  have pl : ∀ b, k_pr2 (k_m K) b < k_m K := fun b => Nat.mod_lt _ hm
  obtain ⟨M0, e0⟩ : ∃ N, N = ir_cp M 134 0 135 0 8 := ⟨_, rfl⟩
  have q0 : q_eq [117, 135] M M0 := by rw [e0]; exact q_eq.cp (by decide)
  have s0 := c_sec_cs h (q_cs_eq h.1.1 q0 (by decide))
  have start : m_X6_takeGuess (d + 2) 133 (nI G) M = v_X6_takeGuess_19 (d + 1) 133 (nI G) (nI 1) M0 := by
    have cg : ir_cpg M 134 (nI 0) 135 (nI 0) (nI 8) = true := q_cpg0 (q_gk0 h.1.1 rfl) (q_gk0 h.1.1 rfl) rfl rfl (by rw [q_ln_eq (by decide)]; decide) (by rw [q_ln_eq (by decide)]; decide) (by decide)
    rw [E_X6_takeGuess, e0]
    simp (disch := omega) only [q_ckt, q_lt, q_cI, q_cJ, q_cV, q_cP, q_xI, q_xV, q_xP, q_xJ, g_gk, g_ga, g_gw, g_gp, g_gq, g_P, g_J, q_I_s, q_I_n, q_I_k, nI_add, pk_sub, pk_mul, nI_clamp, n_lt0, n_0lt, n_eq0, n_lt, n_le, n_eq, n_m1, n_m2, n_m9, n_12, n_19, n_10, n_01, n_1n1, n_0n1, n_1n0, n_0n0, n_dI, n_m1lt, q_inb, n_nar, n_nar0, n_nar1, n_bool, Bool.false_eq_true, Bool.true_eq_false, if_true, if_false, ↓reduceIte, Nat.reduceAdd, Nat.reduceMul, Nat.reduceSub, Nat.reduceLT, Nat.reduceLeDiff, Nat.reduceEqDiff, Nat.reduceMod, Nat.reduceDiv, q_E h.1.1, cg]
  have g0 : ∀ i, i < 8 → i < k_m K → ir_I M0 135 i = nI (o i) ∧ o i < 256 := fun i h8 hi => ⟨by rw [e0, h_Is h8]; exact (ho i hi).1, (ho i hi).2⟩
  obtain ⟨M1, q1, j1, i1, z1, n1⟩ := c_tg1 (d := d) s0 hm g0 (b := 1) (R := G) (by decide) (by decide) hG
  have al : ∀ (x y : Nat), x < 256 → x &&& y < 256 := fun x y hx => Nat.lt_of_le_of_lt Nat.and_le_left hx
  have out : ∀ (b : Nat), 1 ≤ b → b ≤ 3 → (x : Nat) → x = k_pr2 (k_m K) b → (o x &&& k_gm (k_m K) G x = 0) → ∃ i, i < k_m K ∧ o i &&& k_gm (k_m K) G i = 0 := fun b _ _ x hx he => ⟨x, by rw [hx]; exact pl b, he⟩
  by_cases c1 : o (k_pr2 (k_m K) 1) &&& 2 ^ (G % 8) = 0
  · refine ⟨M1, false, ?_, q0.tr q1, (fun w => nomatch w), fun _ => out 1 (by decide) (by decide) _ rfl ?_⟩
    · rw [start, z1 c1]; rfl
    · unfold k_gm
      rw [if_pos rfl, ← Nat.and_assoc, c1, Nat.zero_and]
  · obtain ⟨a1, e1⟩ := n1 c1
    have s1 := c_sec_cs s0 (q_cs_eq s0.1.1 q1 (by decide))
    obtain ⟨M2, q2, j2, i2, z2, n2⟩ := c_tg1 (d := d) s1 hm (g := fun i => o i &&& (if i = k_pr2 (k_m K) 1 then 2 ^ (G % 8) else 255)) (fun i _ hi => ⟨i1 i hi, al _ _ (ho i hi).2⟩) (b := 2) (R := G / 8) (by decide) (by decide) (by omega)
    by_cases c2 : (o (k_pr2 (k_m K) 2) &&& (if k_pr2 (k_m K) 2 = k_pr2 (k_m K) 1 then 2 ^ (G % 8) else 255)) &&& 2 ^ (G / 8 % 8) = 0
    · refine ⟨M2, false, ?_, (q0.tr q1).tr q2, (fun w => nomatch w), fun _ => out 2 (by decide) (by decide) _ rfl ?_⟩
      · rw [start, e1, z2 c2]; rfl
      · unfold k_gm
        rw [if_pos (rfl : k_pr2 (k_m K) 2 = k_pr2 (k_m K) 2), ← Nat.and_assoc, ← Nat.and_assoc, c2, Nat.zero_and]
    · obtain ⟨a2, e2⟩ := n2 c2
      have s2 := c_sec_cs s1 (q_cs_eq s1.1.1 q2 (by decide))
      obtain ⟨M3, q3, j3, i3, z3, n3⟩ := c_tg1 (d := d) s2 hm (g := fun i => (o i &&& (if i = k_pr2 (k_m K) 1 then 2 ^ (G % 8) else 255)) &&& (if i = k_pr2 (k_m K) 2 then 2 ^ (G / 8 % 8) else 255)) (fun i _ hi => ⟨i2 i hi, al _ _ (al _ _ (ho i hi).2)⟩) (b := 3) (R := G / 8 / 8) (by decide) (by decide) (by omega)
      by_cases c3 : ((o (k_pr2 (k_m K) 3) &&& (if k_pr2 (k_m K) 3 = k_pr2 (k_m K) 1 then 2 ^ (G % 8) else 255)) &&& (if k_pr2 (k_m K) 3 = k_pr2 (k_m K) 2 then 2 ^ (G / 8 % 8) else 255)) &&& 2 ^ (G / 8 / 8 % 8) = 0
      · refine ⟨M3, false, ?_, ((q0.tr q1).tr q2).tr q3, (fun w => nomatch w), fun _ => out 3 (by decide) (by decide) _ rfl ?_⟩
        · rw [start, e1, e2, z3 c3]; rfl
        · unfold k_gm
          rw [if_pos (rfl : k_pr2 (k_m K) 3 = k_pr2 (k_m K) 3), ← Nat.and_assoc, ← Nat.and_assoc, c3]
      · obtain ⟨a3, e3⟩ := n3 c3
        refine ⟨M3, true, ?_, ((q0.tr q1).tr q2).tr q3, fun _ => ⟨?_, ?_, a3, fun i hi => ⟨?_, al _ _ (ho i hi).2⟩⟩, (fun w => nomatch w)⟩
        · rw [start, e1, e2, e3, L_X6_takeGuess_19]
          simp (disch := omega) only [q_ckt, q_lt, q_cI, q_cJ, q_cV, q_cP, q_xI, q_xV, q_xP, q_xJ, g_gk, g_ga, g_gw, g_gp, g_gq, g_P, g_J, q_I_s, q_I_n, q_I_k, nI_add, pk_sub, pk_mul, nI_clamp, n_lt0, n_0lt, n_eq0, n_lt, n_le, n_eq, n_m1, n_m2, n_m9, n_12, n_19, n_10, n_01, n_1n1, n_0n1, n_1n0, n_0n0, n_dI, n_m1lt, q_inb, n_nar, n_nar0, n_nar1, n_bool, Bool.false_eq_true, Bool.true_eq_false, if_true, if_false, ↓reduceIte, Nat.reduceAdd, Nat.reduceMul, Nat.reduceSub, Nat.reduceLT, Nat.reduceLeDiff, Nat.reduceEqDiff, Nat.reduceMod, Nat.reduceDiv]
        · rw [j3 2 (by decide), j2 2 (by decide)]; exact a1
        · rw [j3 1 (by decide)]; exact a2
        · rw [i3 i hi]
          unfold k_gm
          rw [← Nat.and_assoc, ← Nat.and_assoc]
end SB
