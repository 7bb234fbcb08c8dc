/-! secrets, the class: the ways behind -/
def c_spP (M : ir_M) : Prop := ir_P M 133 6 = 4 ∧ ir_P M 133 7 = 12 ∧ ir_P M 133 8 = 116
theorem c_spg {M : ir_M} (hp : q_PI M) (h : c_spP M) : ir_P M 133 6 = 4 ∧ ir_gp M 133 6 6 = true ∧ ir_P M 133 7 = 12 ∧ ir_gp M 133 6 7 = true ∧ ir_P M 133 8 = 116 ∧ ir_gp M 133 6 8 = true := ⟨h.1, q_gpV hp rfl h.1 rfl, h.2.1, q_gpV hp rfl h.2.1 rfl, h.2.2, q_gpV hp rfl h.2.2 rfl⟩
def k_AB (A B : Nat) : Prop := (A = 138 ∧ B = 139) ∨ (A = 139 ∧ B = 138)
theorem k_AB_of {M : ir_M} (hp : q_PI M) : ∃ A B, k_AB A B ∧ ir_P M 133 4 = A ∧ ir_P M 133 5 = B := by
  rcases hp.2.2 with ⟨h1, h2⟩ | ⟨h1, h2⟩
  · exact ⟨138, 139, Or.inl ⟨rfl, rfl⟩, h1, h2⟩
  · exact ⟨139, 138, Or.inr ⟨rfl, rfl⟩, h1, h2⟩
theorem k_ABs {A B : Nat} (h : k_AB A B) : k_AB B A := by
  rcases h with ⟨h1, h2⟩ | ⟨h1, h2⟩
  · exact Or.inr ⟨h2, h1⟩
  · exact Or.inl ⟨h2, h1⟩
theorem k_ABg {A B : Nat} (h : k_AB A B) {M : ir_M} (hp : q_PI M) : (∀ i, ir_ga M A 101 i = ir_inb i 64) ∧ (∀ i, ir_gw M A 101 i = ir_inb i 64) ∧ (∀ i, ir_ga M B 101 i = ir_inb i 64) ∧ (∀ i, ir_gw M B 101 i = ir_inb i 64) := by
  have a := q_E hp
  rcases h with ⟨rfl, rfl⟩ | ⟨rfl, rfl⟩
  · exact ⟨q_a138 hp, q_w138 hp, q_a139 hp, q_w139 hp⟩
  · exact ⟨q_a139 hp, q_w139 hp, q_a138 hp, q_w138 hp⟩
theorem k_ABp {A B : Nat} (h : k_AB A B) {M : ir_M} (hp : q_PI M) (h4 : ir_P M 133 4 = A) (h5 : ir_P M 133 5 = B) : ir_P M 133 4 = A ∧ ir_gp M 133 6 4 = true ∧ ir_P M 133 5 = B ∧ ir_gp M 133 6 5 = true := by
  rcases h with ⟨rfl, rfl⟩ | ⟨rfl, rfl⟩
  · exact ⟨h4, q_gpV hp rfl h4 rfl, h5, q_gpV hp rfl h5 rfl⟩
  · exact ⟨h4, q_gpV hp rfl h4 rfl, h5, q_gpV hp rfl h5 rfl⟩
theorem k_AB_n {A B : Nat} (h : k_AB A B) : A ≠ B := by
  rcases h with ⟨rfl, rfl⟩ | ⟨rfl, rfl⟩ <;> decide
theorem k_AB_f {A B : Nat} (h : k_AB A B) {d : Nat} {M : ir_M} (hp : q_PI M) : ∃ M', m_J7_fill_d0a16 (d + 1) A 0 M = ir_oV M' ∧ M'.1 = M.1 ∧ M'.2.2 = M.2.2 ∧ (∀ b, b ≠ A → M'.2.1 b = M.2.1 b) ∧ ∀ k, k < 64 → ir_J M' A k = 0 := by
  rcases h with ⟨rfl, rfl⟩ | ⟨rfl, rfl⟩
  · exact f_J (a := 138) (N := 64) hp (by decide) rfl (by rw [q_ln_eq (by decide)]; rfl) (fun M' hp' => q_w138 hp')
  · exact f_J (a := 139) (N := 64) hp (by decide) rfl (by rw [q_ln_eq (by decide)]; rfl) (fun M' hp' => q_w139 hp')
theorem k_AB_v {A B : Nat} (h : k_AB A B) {M : ir_M} (hp : q_PI M) : ir_gv M 133 6 A = true ∧ ir_gv M 133 6 B = true := by
  rcases h with ⟨rfl, rfl⟩ | ⟨rfl, rfl⟩
  · exact ⟨q_gv0 hp rfl, q_gv0 hp rfl⟩
  · exact ⟨q_gv0 hp rfl, q_gv0 hp rfl⟩
/-- only the two rows of counts change -/
def q_ws (M M' : ir_M) : Prop := q_PI M' ∧ M'.1 = M.1 ∧ (∀ a, a ≠ 138 → a ≠ 139 → M'.2.1 a = M.2.1 a) ∧ (∀ a, a ≠ 133 → M'.2.2.1 a = M.2.2.1 a) ∧ (∀ k, k ≠ 4 → k ≠ 5 → M'.2.2.1 133 k = M.2.2.1 133 k) ∧ M'.2.2.2 = M.2.2.2
theorem q_ws.tr {A B C : ir_M} (h : q_ws A B) (g : q_ws B C) : q_ws A C := ⟨g.1, g.2.1.trans h.2.1, fun a h1 h2 => (g.2.2.1 a h1 h2).trans (h.2.2.1 a h1 h2), fun a ha => (g.2.2.2.1 a ha).trans (h.2.2.2.1 a ha), fun k h1 h2 => (g.2.2.2.2.1 k h1 h2).trans (h.2.2.2.2.1 k h1 h2), g.2.2.2.2.2.trans h.2.2.2.2.2⟩
theorem q_ws.rf {M : ir_M} (hp : q_PI M) : q_ws M M := ⟨hp, rfl, fun _ _ _ => rfl, fun _ _ => rfl, fun _ _ _ => rfl, rfl⟩
theorem q_ws_J {M M' : ir_M} {A B : Nat} (hAB : k_AB A B) (hp : q_PI M) (h1 : M'.1 = M.1) (h2 : M'.2.2 = M.2.2) (h3 : ∀ b, b ≠ A → M'.2.1 b = M.2.1 b) : q_ws M M' := ⟨q_PI_tt h2 hp, h1, fun a h4 h5 => h3 a (by rcases hAB with ⟨rfl, rfl⟩ | ⟨rfl, rfl⟩ <;> assumption), fun a _ => by rw [h2], fun k _ _ => by rw [h2], by rw [h2]⟩
theorem q_ws.st {M M' : ir_M} (h : q_ws M M') : q_st 0 M M' := by
  obtain ⟨h1, h2, h3, h4, h5, h6⟩ := h
  refine ⟨⟨h1, fun a ha => ⟨by rw [h2], h3 a (by omega) (by omega), h4 a (by omega)⟩, ?_, ?_⟩, fun a _ => by rw [h2], ⟨fun a k _ => by rw [h2], fun a ha => h3 a (fun q => by rw [q] at ha; exact nomatch ha) (fun q => by rw [q] at ha; exact nomatch ha)⟩, fun a k _ => by rw [h2]⟩
  · show M'.2.2.2.2.1 ≤ M.2.2.2.2.1 + 0
    rw [h6]
    exact Nat.le_refl _
  · show M'.2.2.2.2.2.1 ≤ M.2.2.2.2.2.1 + 6 * 0
    rw [h6]
    exact Nat.le_refl _
theorem q_ws_I {M M' : ir_M} (h : q_ws M M') (a k : Nat) : ir_I M' a k = ir_I M a k := by
  show M'.1 a k = M.1 a k
  rw [h.2.1]
theorem c_spP_ws {M M' : ir_M} (h : q_ws M M') (hs : c_spP M) : c_spP M' := ⟨(h.2.2.2.2.1 6 (by decide) (by decide)).trans hs.1, (h.2.2.2.2.1 7 (by decide) (by decide)).trans hs.2.1, (h.2.2.2.2.1 8 (by decide) (by decide)).trans hs.2.2⟩
theorem c_spP_eq {S : List Nat} {M M' : ir_M} (he : q_eq S M M') (h : c_spP M) : c_spP M' := by
  unfold c_spP ir_P at h ⊢
  rw [he.2]
  exact h
/-- the two rows change places -/
theorem q_ws_sw {M : ir_M} {A B : Nat} (hAB : k_AB A B) (hp : q_PI M) (h4 : ir_P M 133 4 = A) (h5 : ir_P M 133 5 = B) : q_ws M (ir_sP (ir_sP M 133 4 B) 133 5 A) ∧ ir_P (ir_sP (ir_sP M 133 4 B) 133 5 A) 133 4 = B := by
  have e4 : ir_P (ir_sP (ir_sP M 133 4 B) 133 5 A) 133 4 = B := by rw [p_Pk (by decide), p_Ps]
  have e5 : ir_P (ir_sP (ir_sP M 133 4 B) 133 5 A) 133 5 = A := p_Ps
  have ok : ∀ k, k ≠ 4 → k ≠ 5 → ir_P (ir_sP (ir_sP M 133 4 B) 133 5 A) 133 k = ir_P M 133 k := fun k h1 h2 => by rw [p_Pk h2, p_Pk h1]
  have on : ∀ a, a ≠ 133 → ∀ k, ir_P (ir_sP (ir_sP M 133 4 B) 133 5 A) a k = ir_P M a k := fun a ha k => by rw [p_Pn ha, p_Pn ha]
  refine ⟨⟨⟨hp.1, fun l hl e he => ?_, ?_⟩, rfl, fun _ _ _ => rfl, fun a ha => funext (on a ha), ok, rfl⟩, e4⟩
  · have old : ir_P M e.1 e.2.1 = e.2.2 := hp.2.1 l hl e he
    show ir_P (ir_sP (ir_sP M 133 4 B) 133 5 A) e.1 e.2.1 = e.2.2
    by_cases q : e.1 = 133
    · have nk : e.2.1 ≠ 4 ∧ e.2.1 ≠ 5 := by
        have hh : (q_pt.all fun l => l.all fun e => !(e.1 == 133 && (e.2.1 == 4 || e.2.1 == 5))) = true := by decide +kernel
        have h1 := List.all_eq_true.mp (List.all_eq_true.mp hh l hl) e he
        rw [q] at h1
        simp at h1
        exact h1
      rw [q, ok _ nk.1 nk.2, ← q]
      exact old
    · rw [on _ q]
      exact old
  · rcases hAB with ⟨rfl, rfl⟩ | ⟨rfl, rfl⟩
    · exact Or.inr ⟨e4, e5⟩
    · exact Or.inl ⟨e4, e5⟩
/-- told -/
def c_sec2 (K : Nat → Int32) (N : Nat → Int32) (M : ir_M) : Prop := c_rl M 12 K ∧ c_spP M ∧ (∀ i, i < k_m K → ir_I M 137 i = if N i = -1 then 0 else 1) ∧ ∀ i, i < k_m K → ir_I M 136 i = if N i = -2 then -1 else N i
theorem c_sec_ws {K N : Nat → Int32} {M M' : ir_M} (h : c_sec2 K N M) (w : q_ws M M') : c_sec2 K N M' := ⟨q_st_c w.st h.1, c_spP_ws w h.2.1, fun i hi => by rw [q_ws_I w]; exact h.2.2.1 i hi, fun i hi => by rw [q_ws_I w]; exact h.2.2.2 i hi⟩
def k_phi (M : ir_M) (g : Nat → Nat → Nat) : Int64 := k_sj (fun q => ir_J M (ir_P M 133 4) q * Int64.ofNat (g (q / 8) (q % 8))) 64
theorem k_sj_cg {f g : Nat → Int64} : ∀ n, (∀ i, i < n → f i = g i) → k_sj f n = k_sj g n
  | 0, _ => rfl
  | n + 1, h => by
    unfold k_sj
    rw [k_sj_cg n (fun i hi => h i (by omega)), h n (by omega)]
theorem k_sj_0 : ∀ n, k_sj (fun _ => 0) n = 0
  | 0 => rfl
  | n + 1 => by
    unfold k_sj
    rw [k_sj_0 n]
    decide +kernel
theorem k_sj_upd {c f : Nat → Int64} {q : Nat} {x : Int64} : ∀ n, k_sj (fun i => (if i = q then c q + x else c i) * f i) n = if q < n then k_sj (fun i => c i * f i) n + x * f q else k_sj (fun i => c i * f i) n
  | 0 => by rw [if_neg (by omega)]; rfl
  | n + 1 => by
    unfold k_sj
    rw [k_sj_upd n]
    by_cases h : n = q
    · subst h
      rw [if_neg (by omega), if_pos rfl, if_pos (by omega), Int64.add_mul, Int64.add_assoc]
    · rw [if_neg h]
      by_cases h2 : q < n
      · rw [if_pos h2, if_pos (by omega), Int64.add_assoc, Int64.add_comm (x * f q), ← Int64.add_assoc]
      · rw [if_neg h2, if_neg (by omega)]
theorem n_d8 : ∀ x, x < 64 → nI x / nI 8 = nI (x / 8) ∧ nI x - nI x / nI 8 * nI 8 = nI (x % 8) := by decide +kernel
section SC
variable {K N : Nat → Int32} {M : ir_M} {d : Nat}
theorem c_fits (h : c_sec2 K N M) {j : Nat} (hj : j < 100) (f : Int32) : m_X6_fits (d + 1) 133 (nI j) f M = ir_oI (if k_F (k_m K) N j f = true then nI 1 else nI 0) M := by
  have hb := k_bds h.1.2.2.1
  rw [E_X6_fits]
  unfold k_F
  by_cases q : j < k_m K
  · rw [decide_eq_false (show ¬ k_m K ≤ j by omega), Bool.false_or]
    have e7 := h.2.2.1 j q
    have e6 := h.2.2.2 j q
    by_cases q1 : N j = -1
    · rw [if_pos q1] at e7
      rw [decide_eq_true q1, Bool.true_or]
      simp (disch := omega) only [q_ckt, q_lt, q_cI, q_cJ, q_cV, q_cP, q_xI, q_xV, q_xP, q_xJ, g_gk, g_ga, g_gw, g_gp, g_gq, g_P, g_J, q_I_s, q_I_n, q_I_k, nI_add, pk_sub, pk_mul, nI_clamp, n_lt0, n_0lt, n_eq0, n_lt, n_le, n_eq, n_m1, n_m2, n_m9, n_12, n_19, n_10, n_01, n_1n1, n_0n1, n_1n0, n_0n0, n_dI, n_m1lt, q_inb, n_nar, n_nar0, n_nar1, n_bool, Bool.false_eq_true, Bool.true_eq_false, if_true, if_false, ↓reduceIte, Nat.reduceAdd, Nat.reduceMul, Nat.reduceSub, Nat.reduceLT, Nat.reduceLeDiff, Nat.reduceEqDiff, Nat.reduceMod, Nat.reduceDiv, c_spg h.1.1 h.2.1, q_S h.1.1 (a := 12) (by decide), c_use h.1, q, q_E h.1.1, Bool.or_true, e7]
    · rw [if_neg q1] at e7
      rw [decide_eq_false q1, Bool.false_or]
      obtain ⟨z, ez⟩ : ∃ z, z = (if N j = -2 then (-1 : Int32) else N j) := ⟨_, rfl⟩
      rw [← ez] at e6 ⊢
      by_cases q2 : z = f
      · rw [decide_eq_true q2]
        simp (disch := omega) only [q_ckt, q_lt, q_cI, q_cJ, q_cV, q_cP, q_xI, q_xV, q_xP, q_xJ, g_gk, g_ga, g_gw, g_gp, g_gq, g_P, g_J, q_I_s, q_I_n, q_I_k, nI_add, pk_sub, pk_mul, nI_clamp, n_lt0, n_0lt, n_eq0, n_lt, n_le, n_eq, n_m1, n_m2, n_m9, n_12, n_19, n_10, n_01, n_1n1, n_0n1, n_1n0, n_0n0, n_dI, n_m1lt, q_inb, n_nar, n_nar0, n_nar1, n_bool, Bool.false_eq_true, Bool.true_eq_false, if_true, if_false, ↓reduceIte, Nat.reduceAdd, Nat.reduceMul, Nat.reduceSub, Nat.reduceLT, Nat.reduceLeDiff, Nat.reduceEqDiff, Nat.reduceMod, Nat.reduceDiv, c_spg h.1.1 h.2.1, q_S h.1.1 (a := 12) (by decide), c_use h.1, q, q_E h.1.1, Bool.or_true, e7, n_10, e6, q2]
      · rw [decide_eq_false q2]
        simp (disch := omega) only [q_ckt, q_lt, q_cI, q_cJ, q_cV, q_cP, q_xI, q_xV, q_xP, q_xJ, g_gk, g_ga, g_gw, g_gp, g_gq, g_P, g_J, q_I_s, q_I_n, q_I_k, nI_add, pk_sub, pk_mul, nI_clamp, n_lt0, n_0lt, n_eq0, n_lt, n_le, n_eq, n_m1, n_m2, n_m9, n_12, n_19, n_10, n_01, n_1n1, n_0n1, n_1n0, n_0n0, n_dI, n_m1lt, q_inb, n_nar, n_nar0, n_nar1, n_bool, Bool.false_eq_true, Bool.true_eq_false, if_true, if_false, ↓reduceIte, Nat.reduceAdd, Nat.reduceMul, Nat.reduceSub, Nat.reduceLT, Nat.reduceLeDiff, Nat.reduceEqDiff, Nat.reduceMod, Nat.reduceDiv, c_spg h.1.1 h.2.1, q_S h.1.1 (a := 12) (by decide), c_use h.1, q, q_E h.1.1, Bool.or_true, e7, n_10, e6, q2]
  · rw [decide_eq_true (show k_m K ≤ j by omega), Bool.true_or]
    simp (disch := omega) only [q_ckt, q_lt, q_cI, q_cJ, q_cV, q_cP, q_xI, q_xV, q_xP, q_xJ, g_gk, g_ga, g_gw, g_gp, g_gq, g_P, g_J, q_I_s, q_I_n, q_I_k, nI_add, pk_sub, pk_mul, nI_clamp, n_lt0, n_0lt, n_eq0, n_lt, n_le, n_eq, n_m1, n_m2, n_m9, n_12, n_19, n_10, n_01, n_1n1, n_0n1, n_1n0, n_0n0, n_dI, n_m1lt, q_inb, n_nar, n_nar0, n_nar1, n_bool, Bool.false_eq_true, Bool.true_eq_false, if_true, if_false, ↓reduceIte, Nat.reduceAdd, Nat.reduceMul, Nat.reduceSub, Nat.reduceLT, Nat.reduceLeDiff, Nat.reduceEqDiff, Nat.reduceMod, Nat.reduceDiv, c_spg h.1.1 h.2.1, q_S h.1.1 (a := 12) (by decide), c_use h.1, q]
theorem c_sn (h : c_sec2 K N M) {j o : Nat} (hj : j < 8) (ho : o < 256) : ∃ M', m_X6_standNext (d + 3) 133 (nI j) (nI o) M = ir_oV M' ∧ q_ws M M' ∧ ∀ os, k_phi M' (k_H (k_m K) N (k_y K) os (j + 1)) = k_phi M (k_H (k_m K) N (k_y K) (o :: os) j) := by
  have hk := h.1.2.2.1
  have hb := k_bds hk
  obtain ⟨A, B, hAB, h4, h5⟩ := k_AB_of h.1.1
  have nAB := k_AB_n hAB
  obtain ⟨M1, e1, a1, a2, a3, a4⟩ := k_AB_f (d := d + 1) (k_ABs hAB) h.1.1
  have pz : ∀ t : ir_M, t.2.2 = M.2.2 → q_PI t ∧ ir_P t 133 4 = A ∧ ir_P t 133 5 = B := fun t ht => ⟨q_PI_tt ht h.1.1, by unfold ir_P at h4 ⊢; rw [ht]; exact h4, by unfold ir_P at h5 ⊢; rw [ht]; exact h5⟩
  have sz : ∀ t : ir_M, t.1 = M.1 → t.2.2 = M.2.2 → (∀ b, b ≠ B → t.2.1 b = M.2.1 b) → c_sec2 K N t := fun t h1 h2 h3 => c_sec_ws h (q_ws_J (k_ABs hAB) h.1.1 h1 h2 h3)
  have L := q_up (σ := ir_M) (V := fun x t => v_X6_standNext_10 (d + 2) 133 (nI j) (nI o) (nI x) t) (N := 64) (I := fun x t => t.1 = M.1 ∧ t.2.2 = M.2.2 ∧ (∀ b, b ≠ B → t.2.1 b = M.2.1 b) ∧ ∀ os, k_sj (fun q => ir_J t B q * Int64.ofNat (k_H (k_m K) N (k_y K) os (j + 1) (q / 8) (q % 8))) 64 = k_sj (fun q => ir_J M A q * Int64.ofNat (k_H (k_m K) N (k_y K) (o :: os) j (q / 8) (q % 8))) x) (K := fun t => v_X6_standNext_10 (d + 2) 133 (nI j) (nI o) (nI 64) t) (by
    rintro x t hx ⟨t1, t2, t3, t4⟩
    obtain ⟨hpt, p4, p5⟩ := pz t t2
    have gg := k_ABg hAB hpt
    have pp := k_ABp hAB hpt p4 p5
    have jA : ir_J t A x = ir_J M A x := congrFun (t3 A nAB) x
    obtain ⟨d1, d2⟩ := n_d8 x hx
    by_cases q0 : ir_J M A x = 0
    · refine ⟨t, ⟨t1, t2, t3, fun os => ?_⟩, ?_⟩
      · rw [t4 os]
        show _ = k_sj _ x + ir_J M A x * _
        rw [q0, Int64.zero_mul, Int64.add_zero]
      · have z : lg_cmp (ir_J t A x) 0 = 0 := (k_c0 _ _).mpr (jA.trans q0)
        rw [L_X6_standNext_10]
        simp (disch := omega) only [q_ckt, q_lt, q_cI, q_cJ, q_cV, q_cP, q_xI, q_xV, q_xP, q_xJ, g_gk, g_ga, g_gw, g_gp, g_gq, g_P, g_J, q_I_s, q_I_n, q_I_k, nI_add, pk_sub, pk_mul, nI_clamp, n_lt0, n_0lt, n_eq0, n_lt, n_le, n_eq, n_m1, n_m2, n_m9, n_12, n_19, n_10, n_01, n_1n1, n_0n1, n_1n0, n_0n0, n_dI, n_m1lt, q_inb, n_nar, n_nar0, n_nar1, n_bool, Bool.false_eq_true, Bool.true_eq_false, if_true, if_false, ↓reduceIte, Nat.reduceAdd, Nat.reduceMul, Nat.reduceSub, Nat.reduceLT, Nat.reduceLeDiff, Nat.reduceEqDiff, Nat.reduceMod, Nat.reduceDiv, hx, pp, gg, z]
    · have L2 := q_up (σ := ir_M) (V := fun v u => v_X6_standNext_45 (d + 2) 133 (nI j) (nI o) (nI x) (nI (x / 8) + (-2)) (nI (x % 8)) (nI v) u) (N := 8) (I := fun v u => u.1 = M.1 ∧ u.2.2 = M.2.2 ∧ (∀ b, b ≠ B → u.2.1 b = M.2.1 b) ∧ ∀ os, k_sj (fun q => ir_J u B q * Int64.ofNat (k_H (k_m K) N (k_y K) os (j + 1) (q / 8) (q % 8))) 64 = k_sj (fun q => ir_J M A q * Int64.ofNat (k_H (k_m K) N (k_y K) (o :: os) j (q / 8) (q % 8))) x + ir_J M A x * Int64.ofNat (k_su (fun v => if (o.testBit v && k_F (k_m K) N (j + 1) (k_f3 (k_y K) (x / 8) (x % 8) v)) = true then k_H (k_m K) N (k_y K) os (j + 1) (x % 8) v else 0) v)) (K := fun u => v_X6_standNext_10 (d + 2) 133 (nI j) (nI o) (nI (x + 1)) u) (by
        rintro v u hv ⟨u1, u2, u3, u4⟩
        obtain ⟨hpu, r4, r5⟩ := pz u u2
        have gu := k_ABg hAB hpu
        have pu := k_ABp hAB hpu r4 r5
        have su := sz u u1 u2 u3
        have juA : ir_J u A x = ir_J M A x := congrFun (u3 A nAB) x
        have fo : m_X0_fallOf (d + 2) (nI (k_y K)) (nI (x / 8) + (-2)) (nI (x % 8) + (-2)) (nI v + (-2)) u = ir_oI (k_f3 (k_y K) (x / 8) (x % 8) v) u := c_fo (d := d + 1) (by omega)
        have fi := c_fits (d := d + 1) su (show j + 1 < 100 by omega) (k_f3 (k_y K) (x / 8) (x % 8) v)
        by_cases qb : o.testBit v = true
        · by_cases qf : k_F (k_m K) N (j + 1) (k_f3 (k_y K) (x / 8) (x % 8) v) = true
          · rw [if_pos qf] at fi
            have hm8 : x % 8 < 8 := Nat.mod_lt _ (by decide)
            refine ⟨ir_sJ u B (x % 8 * 8 + v) (ir_J u B (x % 8 * 8 + v) + ir_J M A x), ⟨u1, u2, fun b hb' => (if_neg hb').trans (u3 b hb'), fun os => ?_⟩, ?_⟩
            · have e : ∀ q, ir_J (ir_sJ u B (x % 8 * 8 + v) (ir_J u B (x % 8 * 8 + v) + ir_J M A x)) B q = if q = x % 8 * 8 + v then ir_J u B (x % 8 * 8 + v) + ir_J M A x else ir_J u B q := fun q => s_J
              simp only [e]
              rw [k_sj_upd (c := fun q => ir_J u B q), if_pos (by omega), u4 os, show (x % 8 * 8 + v) / 8 = x % 8 by omega, show (x % 8 * 8 + v) % 8 = v by omega]
              show _ = _ + ir_J M A x * Int64.ofNat (k_su _ v + (if (o.testBit v && k_F (k_m K) N (j + 1) (k_f3 (k_y K) (x / 8) (x % 8) v)) = true then k_H (k_m K) N (k_y K) os (j + 1) (x % 8) v else 0))
              rw [qb, qf, Bool.and_self, if_pos rfl, Int64.ofNat_add, Int64.mul_add, Int64.add_assoc]
            · rw [L_X6_standNext_45]
              simp (disch := omega) only [q_ckt, q_lt, q_cI, q_cJ, q_cV, q_cP, q_xI, q_xV, q_xP, q_xJ, g_gk, g_ga, g_gw, g_gp, g_gq, g_P, g_J, q_I_s, q_I_n, q_I_k, nI_add, pk_sub, pk_mul, nI_clamp, n_lt0, n_0lt, n_eq0, n_lt, n_le, n_eq, n_m1, n_m2, n_m9, n_12, n_19, n_10, n_01, n_1n1, n_0n1, n_1n0, n_0n0, n_dI, n_m1lt, q_inb, n_nar, n_nar0, n_nar1, n_bool, Bool.false_eq_true, Bool.true_eq_false, if_true, if_false, ↓reduceIte, Nat.reduceAdd, Nat.reduceMul, Nat.reduceSub, Nat.reduceLT, Nat.reduceLeDiff, Nat.reduceEqDiff, Nat.reduceMod, Nat.reduceDiv, hv, n_bit, n_bt, qb, c_spg hpu su.2.1, q_T hpu, c_use su.1, fo, q_E hpu, fi, pu, gu, juA]
          · rw [if_neg qf] at fi
            refine ⟨u, ⟨u1, u2, u3, fun os => ?_⟩, ?_⟩
            · rw [u4 os]
              show _ = _ + ir_J M A x * Int64.ofNat (k_su _ v + (if (o.testBit v && k_F (k_m K) N (j + 1) (k_f3 (k_y K) (x / 8) (x % 8) v)) = true then _ else 0))
              rw [qb, Bool.eq_false_iff.mpr qf, Bool.and_false, if_neg (by decide)]
              rfl
            · rw [L_X6_standNext_45]
              simp (disch := omega) only [q_ckt, q_lt, q_cI, q_cJ, q_cV, q_cP, q_xI, q_xV, q_xP, q_xJ, g_gk, g_ga, g_gw, g_gp, g_gq, g_P, g_J, q_I_s, q_I_n, q_I_k, nI_add, pk_sub, pk_mul, nI_clamp, n_lt0, n_0lt, n_eq0, n_lt, n_le, n_eq, n_m1, n_m2, n_m9, n_12, n_19, n_10, n_01, n_1n1, n_0n1, n_1n0, n_0n0, n_dI, n_m1lt, q_inb, n_nar, n_nar0, n_nar1, n_bool, Bool.false_eq_true, Bool.true_eq_false, if_true, if_false, ↓reduceIte, Nat.reduceAdd, Nat.reduceMul, Nat.reduceSub, Nat.reduceLT, Nat.reduceLeDiff, Nat.reduceEqDiff, Nat.reduceMod, Nat.reduceDiv, hv, n_bit, n_bt, qb, c_spg hpu su.2.1, q_T hpu, c_use su.1, fo, q_E hpu, fi]
        · refine ⟨u, ⟨u1, u2, u3, fun os => ?_⟩, ?_⟩
          · rw [u4 os]
            show _ = _ + ir_J M A x * Int64.ofNat (k_su _ v + (if (o.testBit v && k_F (k_m K) N (j + 1) (k_f3 (k_y K) (x / 8) (x % 8) v)) = true then _ else 0))
            rw [Bool.eq_false_iff.mpr qb, Bool.false_and, if_neg (by decide)]
            rfl
          · rw [L_X6_standNext_45]
            simp (disch := omega) only [q_ckt, q_lt, q_cI, q_cJ, q_cV, q_cP, q_xI, q_xV, q_xP, q_xJ, g_gk, g_ga, g_gw, g_gp, g_gq, g_P, g_J, q_I_s, q_I_n, q_I_k, nI_add, pk_sub, pk_mul, nI_clamp, n_lt0, n_0lt, n_eq0, n_lt, n_le, n_eq, n_m1, n_m2, n_m9, n_12, n_19, n_10, n_01, n_1n1, n_0n1, n_1n0, n_0n0, n_dI, n_m1lt, q_inb, n_nar, n_nar0, n_nar1, n_bool, Bool.false_eq_true, Bool.true_eq_false, if_true, if_false, ↓reduceIte, Nat.reduceAdd, Nat.reduceMul, Nat.reduceSub, Nat.reduceLT, Nat.reduceLeDiff, Nat.reduceEqDiff, Nat.reduceMod, Nat.reduceDiv, hv, n_bit, n_bt, Bool.eq_false_iff.mpr qb]) (by
        rintro u _
        rw [L_X6_standNext_45]
        simp (disch := omega) only [q_ckt, q_lt, q_cI, q_cJ, q_cV, q_cP, q_xI, q_xV, q_xP, q_xJ, g_gk, g_ga, g_gw, g_gp, g_gq, g_P, g_J, q_I_s, q_I_n, q_I_k, nI_add, pk_sub, pk_mul, nI_clamp, n_lt0, n_0lt, n_eq0, n_lt, n_le, n_eq, n_m1, n_m2, n_m9, n_12, n_19, n_10, n_01, n_1n1, n_0n1, n_1n0, n_0n0, n_dI, n_m1lt, q_inb, n_nar, n_nar0, n_nar1, n_bool, Bool.false_eq_true, Bool.true_eq_false, if_true, if_false, ↓reduceIte, Nat.reduceAdd, Nat.reduceMul, Nat.reduceSub, Nat.reduceLT, Nat.reduceLeDiff, Nat.reduceEqDiff, Nat.reduceMod, Nat.reduceDiv]) (i := 0) (t := t) (by omega) ⟨t1, t2, t3, fun os => by
          rw [t4 os]
          show _ = _ + _ * Int64.ofNat 0
          rw [show Int64.ofNat 0 = 0 from rfl, Int64.mul_zero, Int64.add_zero]⟩
      obtain ⟨u, ⟨u1, u2, u3, u4⟩, ee⟩ := L2
      refine ⟨u, ⟨u1, u2, u3, fun os => u4 os⟩, ?_⟩
      have z : ¬ lg_cmp (ir_J t A x) 0 = 0 := fun w => q0 (jA.symm.trans ((k_c0 _ _).mp w))
      rw [L_X6_standNext_10]
      simp (disch := omega) only [q_ckt, q_lt, q_cI, q_cJ, q_cV, q_cP, q_xI, q_xV, q_xP, q_xJ, g_gk, g_ga, g_gw, g_gp, g_gq, g_P, g_J, q_I_s, q_I_n, q_I_k, nI_add, pk_sub, pk_mul, nI_clamp, n_lt0, n_0lt, n_eq0, n_lt, n_le, n_eq, n_m1, n_m2, n_m9, n_12, n_19, n_10, n_01, n_1n1, n_0n1, n_1n0, n_0n0, n_dI, n_m1lt, q_inb, n_nar, n_nar0, n_nar1, n_bool, Bool.false_eq_true, Bool.true_eq_false, if_true, if_false, ↓reduceIte, Nat.reduceAdd, Nat.reduceMul, Nat.reduceSub, Nat.reduceLT, Nat.reduceLeDiff, Nat.reduceEqDiff, Nat.reduceMod, Nat.reduceDiv, hx, pp, gg, z]
      rw [d2, d1]
      exact ee) (fun _ _ => rfl) (i := 0) (t := M1) (by omega) ⟨a1, a2, a3, fun os => by
        refine (k_sj_cg _ fun q hq => ?_).trans (k_sj_0 64)
        rw [a4 q hq, Int64.zero_mul]⟩
  obtain ⟨t, ⟨t1, t2, t3, t4⟩, ee⟩ := L
  obtain ⟨hpt, p4, p5⟩ := pz t t2
  obtain ⟨sw, s4⟩ := q_ws_sw hAB hpt p4 p5
  refine ⟨_, ?_, (q_ws_J (k_ABs hAB) h.1.1 t1 t2 t3).tr sw, fun os => ?_⟩
  · have pp := k_ABp hAB hpt p4 p5
    have p0 := k_ABp hAB h.1.1 h4 h5
    have gv1 := (k_AB_v hAB hpt).2
    have gv2 : ir_gv (ir_sP t 133 4 B) 133 6 A = true := (k_AB_v hAB hpt).1
    rw [E_X6_standNext]
    simp (disch := omega) only [q_ckt, q_lt, q_cI, q_cJ, q_cV, q_cP, q_xI, q_xV, q_xP, q_xJ, g_gk, g_ga, g_gw, g_gp, g_gq, g_P, g_J, q_I_s, q_I_n, q_I_k, nI_add, pk_sub, pk_mul, nI_clamp, n_lt0, n_0lt, n_eq0, n_lt, n_le, n_eq, n_m1, n_m2, n_m9, n_12, n_19, n_10, n_01, n_1n1, n_0n1, n_1n0, n_0n0, n_dI, n_m1lt, q_inb, n_nar, n_nar0, n_nar1, n_bool, Bool.false_eq_true, Bool.true_eq_false, if_true, if_false, ↓reduceIte, Nat.reduceAdd, Nat.reduceMul, Nat.reduceSub, Nat.reduceLT, Nat.reduceLeDiff, Nat.reduceEqDiff, Nat.reduceMod, Nat.reduceDiv, p0, e1]
    rw [ee, L_X6_standNext_10]
    simp (disch := omega) only [q_ckt, q_lt, q_cI, q_cJ, q_cV, q_cP, q_xI, q_xV, q_xP, q_xJ, g_gk, g_ga, g_gw, g_gp, g_gq, g_P, g_J, q_I_s, q_I_n, q_I_k, nI_add, pk_sub, pk_mul, nI_clamp, n_lt0, n_0lt, n_eq0, n_lt, n_le, n_eq, n_m1, n_m2, n_m9, n_12, n_19, n_10, n_01, n_1n1, n_0n1, n_1n0, n_0n0, n_dI, n_m1lt, q_inb, n_nar, n_nar0, n_nar1, n_bool, Bool.false_eq_true, Bool.true_eq_false, if_true, if_false, ↓reduceIte, Nat.reduceAdd, Nat.reduceMul, Nat.reduceSub, Nat.reduceLT, Nat.reduceLeDiff, Nat.reduceEqDiff, Nat.reduceMod, Nat.reduceDiv, pp, gv1, gv2]
  · unfold k_phi
    rw [s4, h4]
    exact t4 os
end SC
