/-! plots, the reference -/
section PLR
variable {K : Nat → Int32} {vp mn V : Nat} {pp jj : Nat → Nat} {d : Nat}
def r_pin (K : Nat → Int32) (pp : Nat → Nat) (mn r : Nat) (A G Kc : Nat → Int32) (M : ir_M) : Prop := r_rl M Kc ∧ k_sa K Kc ∧ (∀ j, j < k_m K → k_as Kc j = A j) ∧ ir_I M 412 33 = nI mn ∧ (∀ i, i < mn → ir_I M 423 i = nI (pp i)) ∧ (∀ i, mn - r ≤ i → i < mn → Kc (18 + pp i) = K (18 + pp i)) ∧ ∀ i, i < mn - r → ir_I M 424 i = G i
/-- cells the plot may change -/
def q_pq (M M' : ir_M) : Prop := q_st 0 M M' ∧ M'.2 = M.2 ∧ (∀ k, k < 34 → ir_I M' 412 k = ir_I M 412 k) ∧ (∀ i, ir_I M' 423 i = ir_I M 423 i)
theorem q_pq.tr {A B C : ir_M} (h : q_pq A B) (g : q_pq B C) : q_pq A C := ⟨h.1.tr g.1, g.2.1.trans h.2.1, fun k hk => (g.2.2.1 k hk).trans (h.2.2.1 k hk), fun i => (g.2.2.2 i).trans (h.2.2.2 i)⟩
theorem q_pq_eq {S : List Nat} {M M' : ir_M} (hp : q_PI M) (he : q_eq S M M') (hS : ∀ a ∈ S, q_tmp a = true) (h1 : 412 ∉ S) (h2 : 423 ∉ S) : q_pq M M' := ⟨q_st_eq hp he hS, he.2, fun k _ => q_I_eq he h1 k, fun i => q_I_eq he h2 i⟩
/-- the same, but for what is known -/
def q_pz (M M' : ir_M) : Prop := q_PI M' ∧ M'.2 = M.2 ∧ (∀ a, 1000000 ≤ a → M'.1 a = M.1 a) ∧ (∀ a, q_l1 a = true → a ≠ 413 → M'.1 a = M.1 a) ∧ (∀ a k, q_l2 a k = true → M'.1 a k = M.1 a k) ∧ q_v3 M M' ∧ (∀ k, k < 34 → ir_I M' 412 k = ir_I M 412 k) ∧ (∀ i, ir_I M' 423 i = ir_I M 423 i)
theorem q_pz.tr {A B C : ir_M} (h : q_pz A B) (g : q_pz B C) : q_pz A C := ⟨g.1, g.2.1.trans h.2.1, fun a ha => (g.2.2.1 a ha).trans (h.2.2.1 a ha), fun a ha hn => (g.2.2.2.1 a ha hn).trans (h.2.2.2.1 a ha hn), fun a k ha => (g.2.2.2.2.1 a k ha).trans (h.2.2.2.2.1 a k ha), fun a k ha => (g.2.2.2.2.2.1 a k ha).trans (h.2.2.2.2.2.1 a k ha), fun k hk => (g.2.2.2.2.2.2.1 k hk).trans (h.2.2.2.2.2.2.1 k hk), fun i => (g.2.2.2.2.2.2.2 i).trans (h.2.2.2.2.2.2.2 i)⟩
theorem q_pq.pz {M M' : ir_M} (h : q_pq M M') : q_pz M M' := ⟨h.1.1.1, h.2.1, fun a ha => (h.1.1.2.1 a ha).1, fun a ha _ => h.1.2.1 a ha, h.1.2.2.1.1, h.1.2.2.2, h.2.2.1, h.2.2.2⟩
theorem q_pz.pq {M M' : ir_M} (h : q_pz M M') (hk : M'.1 413 = M.1 413) : q_pq M M' := by
  obtain ⟨h1, h2, h3, h4, h5, h6, h7, h8⟩ := h
  refine ⟨⟨⟨h1, fun a ha => ⟨h3 a ha, by rw [h2], by rw [h2]⟩, ?_, ?_⟩, fun a ha => ?_, ⟨h5, fun a _ => by rw [h2]⟩, h6⟩, h2, h7, h8⟩
  · show M'.2.2.2.2.1 ≤ M.2.2.2.2.1 + 0
    rw [h2]
    exact Nat.le_refl _
  · show M'.2.2.2.2.2.1 ≤ M.2.2.2.2.2.1 + 6 * 0
    rw [h2]
    exact Nat.le_refl _
  · by_cases q : a = 413
    · rw [q]; exact hk
    · exact h4 a ha q
theorem q_pr_k {M : ir_M} (hp : q_PI M) {k : Nat} {v : Int32} : q_pz M (ir_sI M 413 k v) := by
  have ne : ∀ a, a ≠ 413 → (ir_sI M 413 k v).1 a = M.1 a := fun a ha => if_neg ha
  exact ⟨hp, rfl, fun a ha => ne a (by omega), fun a _ hn => ne a hn, fun a j ha => congrFun (ne a (fun q => by rw [q] at ha; exact nomatch ha)) j, fun a j ha => congrFun (ne a (fun q => by rw [q] at ha; exact nomatch ha)) j, fun j _ => congrFun (ne 412 (by decide)) j, fun i => congrFun (ne 423 (by decide)) i⟩
theorem r_pw {M : ir_M} {A G Kc : Nat → Int32} {ρ : Bool × Int32 × (Nat → Int32)} (hk : k_ok K) (hmn : mn ≤ 3) (hV : k_pl K V = some vp) (h : r_pin K pp mn 0 A G Kc M) (hr : r_ro M mn ρ) : ∃ M', m_X12_goesPlot (d + 8) 412 (nI mn) (nI V) M = ir_oV M' ∧ r_pin K pp mn 0 A G Kc M' ∧ r_ro M' mn (k_pw K vp A G ρ) ∧ q_pq M M' := by
  obtain ⟨h1, h2, h3, h4, h5, h6, h7⟩ := h
  have hb := k_bds hk
  obtain ⟨hvm, hqv⟩ := k_pl_some hV
  obtain ⟨n1, n2, n3, -, -⟩ := k_sa_n h2
  have hVn := k_qn hk hvm
  rw [hqv] at hVn
  have plc : k_pl Kc V = some vp := by rw [k_pl_cg (K := K) (by omega) (fun k h1 h2' => h2 k (by omega))]; exact hV
  obtain ⟨M1, e1, q1⟩ := r_todayTo (d := d) h1 (by omega) plc
  have r1 := r_rl_eq h1 q1 (by decide)
  have ef : k_fw Kc (k_td Kc) vp = k_fw K (k_fr K A) vp := by
    rw [k_sa_fw h2 (by omega)]
    unfold k_fw
    rw [k_td_fr h2, k_fr_cg h3 hvm]
  rw [ef] at e1
  obtain ⟨f, ef'⟩ : ∃ f, f = k_fw K (k_fr K A) vp := ⟨_, rfl⟩
  rw [← ef'] at e1
  have s1 := q_pq_eq h1.1 q1 (by decide) (by decide) (by decide)
  have pin : ∀ N, q_pq M1 N → (∀ k, ir_I N 413 k = Kc k) → (∀ i, ir_I N 424 i = ir_I M1 424 i) → r_pin K pp mn 0 A G Kc N := fun N sN zK z4 => by
    refine ⟨⟨sN.1.1.1, h1.2.1, zK⟩, h2, h3, ?_, fun i hi => ?_, h6, fun i hi => ?_⟩
    · rw [sN.2.2.1 33 (by decide), q_I_eq q1 (by decide)]; exact h4
    · rw [sN.2.2.2 i, q_I_eq q1 (by decide)]; exact h5 i hi
    · rw [z4, q_I_eq q1 (by decide)]; exact h7 i hi
  obtain ⟨N0, eN0⟩ : ∃ N, N = ir_sI (ir_sI M1 412 35 (nI 1)) 412 34 f := ⟨_, rfl⟩
  have sN0 : q_pq M1 N0 := by
    rw [eN0]
    exact ⟨(q_st_4 r1.1 rfl).tr (q_st_4 (M := ir_sI M1 412 35 (nI 1)) r1.1 rfl), rfl, fun k hk' => by rw [q_I_k (by omega), q_I_k (by omega)], fun i => by rw [q_I_n (by decide), q_I_n (by decide)]⟩
  have hpN0 := sN0.1.1.1
  have L := q_up (σ := ir_M) (V := fun x t => v_X12_goesPlot_43 (d + 7) 412 (nI x) t) (N := mn) (I := fun x t => q_eq [425] N0 t ∧ ∀ i, i < x → ir_I t 425 i = G i) (K := ir_oV) (by
    rintro x t hx ⟨hq, ht⟩
    have hpt := q_PI_eq hq hpN0
    have z3 : ir_I t 412 33 = nI mn := by rw [q_I_eq hq (by decide), sN0.2.2.1 33 (by decide), q_I_eq q1 (by decide)]; exact h4
    have z4 : ir_I t 424 x = G x := by
      rw [q_I_eq hq (by decide), eN0, q_I_n (by decide), q_I_n (by decide), q_I_eq q1 (by decide)]
      exact h7 x (by omega)
    refine ⟨ir_sI t 425 x (G x), ⟨hq.tr (q_eq.sI (by decide)), fun i hi => ?_⟩, ?_⟩
    · rw [q_I_u]
      by_cases q : i = x
      · rw [if_pos q, q]
      · rw [if_neg q]; exact ht i (by omega)
    · rw [L_X12_goesPlot_43]
      simp (disch := omega) only [q_ckt, q_lt, q_cI, q_cJ, q_cV, q_cP, q_xI, q_xV, q_xP, q_xJ, g_gk, g_ga, g_gw, g_gp, g_gq, g_P, g_J, q_I_s, q_I_n, q_I_k, nI_add, pk_sub, pk_mul, nI_clamp, n_lt0, n_0lt, n_eq0, n_lt, n_le, n_eq, n_m1, n_m2, n_m9, n_12, n_19, n_10, n_01, n_1n1, n_0n1, n_1n0, n_0n0, n_dI, n_m1lt, q_inb, n_nar, n_nar0, n_nar1, n_bool, Bool.false_eq_true, Bool.true_eq_false, if_true, if_false, ↓reduceIte, Nat.reduceAdd, Nat.reduceMul, Nat.reduceSub, Nat.reduceLT, Nat.reduceLeDiff, Nat.reduceEqDiff, Nat.reduceMod, Nat.reduceDiv, q_R hpt, z3, hx, z4]) (by
    rintro t ⟨hq, ht⟩
    have hpt := q_PI_eq hq hpN0
    have z3 : ir_I t 412 33 = nI mn := by rw [q_I_eq hq (by decide), sN0.2.2.1 33 (by decide), q_I_eq q1 (by decide)]; exact h4
    rw [L_X12_goesPlot_43]
    simp (disch := omega) only [q_ckt, q_lt, q_cI, q_cJ, q_cV, q_cP, q_xI, q_xV, q_xP, q_xJ, g_gk, g_ga, g_gw, g_gp, g_gq, g_P, g_J, q_I_s, q_I_n, q_I_k, nI_add, pk_sub, pk_mul, nI_clamp, n_lt0, n_0lt, n_eq0, n_lt, n_le, n_eq, n_m1, n_m2, n_m9, n_12, n_19, n_10, n_01, n_1n1, n_0n1, n_1n0, n_0n0, n_dI, n_m1lt, q_inb, n_nar, n_nar0, n_nar1, n_bool, Bool.false_eq_true, Bool.true_eq_false, if_true, if_false, ↓reduceIte, Nat.reduceAdd, Nat.reduceMul, Nat.reduceSub, Nat.reduceLT, Nat.reduceLeDiff, Nat.reduceEqDiff, Nat.reduceMod, Nat.reduceDiv, q_R hpt, z3, Nat.lt_irrefl]) (i := 0) (t := N0) (by omega) ⟨q_eq.rf _ _, fun i hi => absurd hi (by omega)⟩
  obtain ⟨N, ⟨qN, aN⟩, eN⟩ := L
  have sN : q_pq M1 N := sN0.tr (q_pq_eq hpN0 qN (by decide) (by decide) (by decide))
  have take : v_X12_goesPlot_30 (d + 7) 412 f M1 = ir_oV N := by
    rw [L_X12_goesPlot_30]
    simp (disch := omega) only [q_ckt, q_lt, q_cI, q_cJ, q_cV, q_cP, q_xI, q_xV, q_xP, q_xJ, g_gk, g_ga, g_gw, g_gp, g_gq, g_P, g_J, q_I_s, q_I_n, q_I_k, nI_add, pk_sub, pk_mul, nI_clamp, n_lt0, n_0lt, n_eq0, n_lt, n_le, n_eq, n_m1, n_m2, n_m9, n_12, n_19, n_10, n_01, n_1n1, n_0n1, n_1n0, n_0n0, n_dI, n_m1lt, q_inb, n_nar, n_nar0, n_nar1, n_bool, Bool.false_eq_true, Bool.true_eq_false, if_true, if_false, ↓reduceIte, Nat.reduceAdd, Nat.reduceMul, Nat.reduceSub, Nat.reduceLT, Nat.reduceLeDiff, Nat.reduceEqDiff, Nat.reduceMod, Nat.reduceDiv, q_R r1.1, show ir_isB (nI 1) = true from rfl, Bool.and_self]
    rw [← eN0]
    exact eN
  have roN : r_ro N mn (true, f, G) := by
    refine Or.inr ⟨rfl, ?_, ?_, aN⟩
    · rw [q_I_eq qN (by decide), eN0, q_I_k (by decide), q_I_s]
      rfl
    · rw [q_I_eq qN (by decide), eN0, q_I_s]
  have pinN : r_pin K pp mn 0 A G Kc N := pin N sN (fun k => by rw [q_I_eq qN (by decide), eN0, q_I_n (by decide), q_I_n (by decide)]; exact r1.2.2 k) (fun i => by rw [q_I_eq qN (by decide), eN0, q_I_n (by decide), q_I_n (by decide)])
  unfold k_pw
  rw [← ef']
  rcases hr with ⟨a1, a2⟩ | ⟨a1, a2, a3, a4⟩
  · rw [if_neg (fun w => by rw [a1] at w; exact nomatch w.1)]
    refine ⟨N, ?_, pinN, roN, s1.tr sN⟩
    have m2 : ir_I M1 412 35 = 0 := by rw [q_I_eq q1 (by decide)]; exact a2
    rw [E_X12_goesPlot]
    simp (disch := omega) only [q_ckt, q_lt, q_cI, q_cJ, q_cV, q_cP, q_xI, q_xV, q_xP, q_xJ, g_gk, g_ga, g_gw, g_gp, g_gq, g_P, g_J, q_I_s, q_I_n, q_I_k, nI_add, pk_sub, pk_mul, nI_clamp, n_lt0, n_0lt, n_eq0, n_lt, n_le, n_eq, n_m1, n_m2, n_m9, n_12, n_19, n_10, n_01, n_1n1, n_0n1, n_1n0, n_0n0, n_dI, n_m1lt, q_inb, n_nar, n_nar0, n_nar1, n_bool, Bool.false_eq_true, Bool.true_eq_false, if_true, if_false, ↓reduceIte, Nat.reduceAdd, Nat.reduceMul, Nat.reduceSub, Nat.reduceLT, Nat.reduceLeDiff, Nat.reduceEqDiff, Nat.reduceMod, Nat.reduceDiv, q_R h1.1, h4, e1, q_R r1.1, m2]
    exact take
  · have m2 : ir_I M1 412 35 = 1 := by rw [q_I_eq q1 (by decide)]; exact a2
    have m0 : ir_I M1 412 34 = ρ.2.1 := by rw [q_I_eq q1 (by decide)]; exact a3
    by_cases qf : f < ρ.2.1
    · rw [if_neg (fun w => w.2 qf)]
      refine ⟨N, ?_, pinN, roN, s1.tr sN⟩
      rw [E_X12_goesPlot]
      simp (disch := omega) only [q_ckt, q_lt, q_cI, q_cJ, q_cV, q_cP, q_xI, q_xV, q_xP, q_xJ, g_gk, g_ga, g_gw, g_gp, g_gq, g_P, g_J, q_I_s, q_I_n, q_I_k, nI_add, pk_sub, pk_mul, nI_clamp, n_lt0, n_0lt, n_eq0, n_lt, n_le, n_eq, n_m1, n_m2, n_m9, n_12, n_19, n_10, n_01, n_1n1, n_0n1, n_1n0, n_0n0, n_dI, n_m1lt, q_inb, n_nar, n_nar0, n_nar1, n_bool, Bool.false_eq_true, Bool.true_eq_false, if_true, if_false, ↓reduceIte, Nat.reduceAdd, Nat.reduceMul, Nat.reduceSub, Nat.reduceLT, Nat.reduceLeDiff, Nat.reduceEqDiff, Nat.reduceMod, Nat.reduceDiv, q_R h1.1, h4, e1, q_R r1.1, m2, m0, qf]
      exact take
    · rw [if_pos ⟨a1, qf⟩]
      refine ⟨M1, ?_, pin M1 ⟨q_st.rf r1.1, rfl, fun _ _ => rfl, fun _ => rfl⟩ r1.2.2 (fun _ => rfl), Or.inr ⟨a1, m2, m0, fun i hi => by rw [q_I_eq q1 (by decide)]; exact a4 i hi⟩, s1⟩
      rw [E_X12_goesPlot]
      simp (disch := omega) only [q_ckt, q_lt, q_cI, q_cJ, q_cV, q_cP, q_xI, q_xV, q_xP, q_xJ, g_gk, g_ga, g_gw, g_gp, g_gq, g_P, g_J, q_I_s, q_I_n, q_I_k, nI_add, pk_sub, pk_mul, nI_clamp, n_lt0, n_0lt, n_eq0, n_lt, n_le, n_eq, n_m1, n_m2, n_m9, n_12, n_19, n_10, n_01, n_1n1, n_0n1, n_1n0, n_0n0, n_dI, n_m1lt, q_inb, n_nar, n_nar0, n_nar1, n_bool, Bool.false_eq_true, Bool.true_eq_false, if_true, if_false, ↓reduceIte, Nat.reduceAdd, Nat.reduceMul, Nat.reduceSub, Nat.reduceLT, Nat.reduceLeDiff, Nat.reduceEqDiff, Nat.reduceMod, Nat.reduceDiv, q_R h1.1, h4, e1, q_R r1.1, m2, m0, qf]
theorem r_pch (hk : k_ok K) (hmn : mn ≤ 3) (hV : k_pl K V = some vp) (hjj : ∀ i, i < mn → k_pl K (pp i) = some (jj i)) (hinj : ∀ i i', i < mn → i' < mn → pp i = pp i' → i = i') : ∀ (r : Nat) {A G Kc : Nat → Int32} {ρ : Bool × Int32 × (Nat → Int32)} {M : ir_M}, r ≤ mn → r_pin K pp mn r A G Kc M → r_ro M mn ρ → ∃ M', m_X12_goesPlot (d + 8 + r) 412 (nI (mn - r)) (nI V) M = ir_oV M' ∧ r_pin K pp mn r A G Kc M' ∧ r_ro M' mn (k_pc K vp pp jj mn r A G ρ) ∧ q_pq M M'
  | 0, A, G, Kc, ρ, M, _, h, hr => r_pw hk hmn hV h hr
  | r + 1, A, G, Kc, ρ, M, hle, h, hr => by
    have hb := k_bds hk
    obtain ⟨h1, h2, h3, h4, h5, h6, h7⟩ := h
    obtain ⟨n1, n2, n3, -, -⟩ := k_sa_n h2
    obtain ⟨k, ek⟩ : ∃ k, k = mn - (r + 1) := ⟨_, rfl⟩
    have hkm : k < mn := by omega
    have ekr : mn - r = k + 1 := by omega
    obtain ⟨hjm, hqj⟩ := k_pl_some (hjj k hkm)
    have hpn := k_qn hk hjm
    rw [hqj] at hpn
    have ed : d + 8 + (r + 1) = d + 8 + r + 1 := by omega
    have pk := h5 k hkm
    have wk : Kc (18 + pp k) = K (18 + pp k) := h6 k (by omega) hkm
    have qc : k_q Kc (jj k) = pp k := by rw [k_sa_q h2 (by omega)]; exact hqj
    have wa : ∃ v, v < k_g K ∧ upd Kc (18 + pp k) (nI v) = Kc := ⟨k_a Kc (pp k), by rw [← n2]; exact k_ag h1.2.1 (by omega), k_upd_self h1.2.1 (by omega)⟩
    -- one look at a good
    have look : ∀ (t : ir_M) (v x : Nat) (fl : Int32), v < k_g K → x < k_g K → r_rl t (upd Kc (18 + pp k) (nI v)) → ∃ t1, q_eq [418] t t1 ∧ r_rl t1 (upd Kc (18 + pp k) (nI v)) ∧ (k_al K (k_q K (jj k)) (nI x) (nI (jj k)) = false → v_X12_goesPlot_97 (d + 8 + r) 412 (nI k) (nI V) (nI (pp k)) (K (18 + pp k)) fl (nI x) t = v_X12_goesPlot_97 (d + 8 + r) 412 (nI k) (nI V) (nI (pp k)) (K (18 + pp k)) fl (nI (x + 1)) t1) ∧ (k_al K (k_q K (jj k)) (nI x) (nI (jj k)) = true → ∀ t2 t3, t2 = ir_sI (ir_sI t1 413 (18 + pp k) (nI x)) 424 k (nI x) → m_X12_goesPlot (d + 8 + r) 412 (nI (k + 1)) (nI V) t2 = ir_oV t3 → v_X12_goesPlot_97 (d + 8 + r) 412 (nI k) (nI V) (nI (pp k)) (K (18 + pp k)) fl (nI x) t = v_X12_goesPlot_97 (d + 8 + r) 412 (nI k) (nI V) (nI (pp k)) (K (18 + pp k)) (nI 1) (nI (x + 1)) t3) := fun t v x fl hv hx hrt => by
      have sa : k_sa Kc (upd Kc (18 + pp k) (nI v)) := k_sa_u (by omega)
      obtain ⟨m1, m2, m3, -, -⟩ := k_sa_n sa
      have go := r_go (d := d + 7 + r) hrt
      rw [m2, n2, show d + 7 + r + 1 = d + 8 + r by omega] at go
      have po := r_placeOf (d := d + 6 + r) hrt (show pp k < 2 ^ 31 by omega)
      have plv : k_pl (upd Kc (18 + pp k) (nI v)) (pp k) = some (jj k) := by
        rw [k_pl_cg (K := Kc) (by omega) (fun z h1 h2' => k_upd_n (by omega)), k_pl_cg (K := K) (by omega) (fun z h1 h2' => h2 z (by omega))]
        exact hjj k hkm
      rw [plv, show d + 6 + r + 2 = d + 8 + r by omega] at po
      obtain ⟨t1, e1, q1⟩ := r_al (d := d + 4 + r) hrt (p := pp k) (g := nI x) (pl := nI (jj k)) (by omega) (k_gd_na (by omega))
      rw [k_sa_al sa, k_sa_al h2, show d + 4 + r + 4 = d + 8 + r by omega, ← hqj] at e1
      rw [hqj] at e1
      have r1 := r_rl_eq hrt q1 (by decide)
      refine ⟨t1, q1, r1, fun ea => ?_, fun ea t2 t3 et2 e3 => ?_⟩
      · rw [hqj] at ea
        rw [ea, if_neg (by decide)] at e1
        rw [L_X12_goesPlot_97]
        simp (disch := omega) only [q_ckt, q_lt, q_cI, q_cJ, q_cV, q_cP, q_xI, q_xV, q_xP, q_xJ, g_gk, g_ga, g_gw, g_gp, g_gq, g_P, g_J, q_I_s, q_I_n, q_I_k, nI_add, pk_sub, pk_mul, nI_clamp, n_lt0, n_0lt, n_eq0, n_lt, n_le, n_eq, n_m1, n_m2, n_m9, n_12, n_19, n_10, n_01, n_1n1, n_0n1, n_1n0, n_0n0, n_dI, n_m1lt, q_inb, n_nar, n_nar0, n_nar1, n_bool, Bool.false_eq_true, Bool.true_eq_false, if_true, if_false, ↓reduceIte, Nat.reduceAdd, Nat.reduceMul, Nat.reduceSub, Nat.reduceLT, Nat.reduceLeDiff, Nat.reduceEqDiff, Nat.reduceMod, Nat.reduceDiv, q_R hrt.1, go, hx, po, k_on, e1]
      · rw [hqj] at ea
        rw [ea, if_pos rfl] at e1
        rw [L_X12_goesPlot_97]
        simp (disch := omega) only [q_ckt, q_lt, q_cI, q_cJ, q_cV, q_cP, q_xI, q_xV, q_xP, q_xJ, g_gk, g_ga, g_gw, g_gp, g_gq, g_P, g_J, q_I_s, q_I_n, q_I_k, nI_add, pk_sub, pk_mul, nI_clamp, n_lt0, n_0lt, n_eq0, n_lt, n_le, n_eq, n_m1, n_m2, n_m9, n_12, n_19, n_10, n_01, n_1n1, n_0n1, n_1n0, n_0n0, n_dI, n_m1lt, q_inb, n_nar, n_nar0, n_nar1, n_bool, Bool.false_eq_true, Bool.true_eq_false, if_true, if_false, ↓reduceIte, Nat.reduceAdd, Nat.reduceMul, Nat.reduceSub, Nat.reduceLT, Nat.reduceLeDiff, Nat.reduceEqDiff, Nat.reduceMod, Nat.reduceDiv, q_R hrt.1, go, hx, po, k_on, e1, q_R r1.1]
        rw [← et2]
        have p2 : q_PI t2 := by rw [et2]; exact r1.1
        simp (disch := omega) only [q_ckt, q_lt, q_cI, q_cJ, q_cV, q_cP, q_xI, q_xV, q_xP, q_xJ, g_gk, g_ga, g_gw, g_gp, g_gq, g_P, g_J, q_I_s, q_I_n, q_I_k, nI_add, pk_sub, pk_mul, nI_clamp, n_lt0, n_0lt, n_eq0, n_lt, n_le, n_eq, n_m1, n_m2, n_m9, n_12, n_19, n_10, n_01, n_1n1, n_0n1, n_1n0, n_0n0, n_dI, n_m1lt, q_inb, n_nar, n_nar0, n_nar1, n_bool, Bool.false_eq_true, Bool.true_eq_false, if_true, if_false, ↓reduceIte, Nat.reduceAdd, Nat.reduceMul, Nat.reduceSub, Nat.reduceLT, Nat.reduceLeDiff, Nat.reduceEqDiff, Nat.reduceMod, Nat.reduceDiv, q_R p2, e3]
    have start : ∀ X, v_X12_goesPlot_97 (d + 8 + r) 412 (nI k) (nI V) (nI (pp k)) (K (18 + pp k)) (nI 0) (nI 0) M = X → m_X12_goesPlot (d + 8 + (r + 1)) 412 (nI k) (nI V) M = X := fun X hX => by
      rw [ed, E_X12_goesPlot]
      simp (disch := omega) only [q_ckt, q_lt, q_cI, q_cJ, q_cV, q_cP, q_xI, q_xV, q_xP, q_xJ, g_gk, g_ga, g_gw, g_gp, g_gq, g_P, g_J, q_I_s, q_I_n, q_I_k, nI_add, pk_sub, pk_mul, nI_clamp, n_lt0, n_0lt, n_eq0, n_lt, n_le, n_eq, n_m1, n_m2, n_m9, n_12, n_19, n_10, n_01, n_1n1, n_0n1, n_1n0, n_0n0, n_dI, n_m1lt, q_inb, n_nar, n_nar0, n_nar1, n_bool, Bool.false_eq_true, Bool.true_eq_false, if_true, if_false, ↓reduceIte, Nat.reduceAdd, Nat.reduceMul, Nat.reduceSub, Nat.reduceLT, Nat.reduceLeDiff, Nat.reduceEqDiff, Nat.reduceMod, Nat.reduceDiv, q_R h1.1, h4, show ¬ k = mn by omega, pk, h1.2.2, wk]
      exact hX
    unfold k_pc
    rw [← ek]
    by_cases q0 : k_ch K (jj k) (k_g K) = 0
    · rw [if_pos q0]
      obtain ⟨v0, hv0, ev0⟩ := wa
      have L := q_up (σ := ir_M) (V := fun x t => v_X12_goesPlot_97 (d + 8 + r) 412 (nI k) (nI V) (nI (pp k)) (K (18 + pp k)) (nI 0) (nI x) t) (N := k_g K) (I := fun _ t => q_eq [418] M t) (K := fun t => v_X12_goesPlot_97 (d + 8 + r) 412 (nI k) (nI V) (nI (pp k)) (K (18 + pp k)) (nI 0) (nI (k_g K)) t) (by
        intro x t hx hq
        have ct := r_rl_eq h1 hq (by decide)
        rw [← ev0] at ct
        obtain ⟨t1, q1, -, f1, -⟩ := look t v0 x (nI 0) hv0 hx ct
        exact ⟨t1, hq.tr q1, f1 ((k_ch_0 _).mp q0 x hx)⟩) (fun _ _ => rfl) (i := 0) (t := M) (by omega) (q_eq.rf _ _)
      obtain ⟨t, hq, ee⟩ := L
      have ct := r_rl_eq h1 hq (by decide)
      have go := r_go (d := d + 7 + r) ct
      rw [n2, show d + 7 + r + 1 = d + 8 + r by omega] at go
      obtain ⟨t1, et1⟩ : ∃ N, N = ir_sI t 413 (18 + pp k) (K (18 + pp k)) := ⟨_, rfl⟩
      have rt1 : r_rl t1 Kc := by
        refine ⟨by rw [et1]; exact ct.1, h1.2.1, fun z => ?_⟩
        rw [et1, q_I_u, ct.2.2]
        by_cases q : z = 18 + pp k
        · rw [if_pos q, q, wk]
        · rw [if_neg q]
      have k1 : t1.1 413 = t.1 413 := funext fun z => (rt1.2.2 z).trans (ct.2.2 z).symm
      have qt1 : q_eq [] t t1 := q_eq.dr (a := 413) (by rw [et1]; exact q_eq.sI (by decide)) k1
      obtain ⟨t2, et2⟩ : ∃ N, N = ir_sI t1 424 k (K (18 + pp k)) := ⟨_, rfl⟩
      have q2 : q_eq [418, 424] M t2 := by
        refine (hq.sub (by decide)).tr ((qt1.sub (by simp)).tr ?_)
        rw [et2]
        exact q_eq.sI (by decide)
      have s2 := q_pq_eq h1.1 q2 (by decide) (by decide) (by decide)
      have g2 : ∀ i, ir_I t2 424 i = if i = k then K (18 + pp k) else ir_I M 424 i := fun i => by
        rw [et2, q_I_u, q_I_eq qt1 (by decide), q_I_eq hq (by decide)]
      have hin : r_pin K pp mn r A (upd G k (K (18 + pp k))) Kc t2 := by
        refine ⟨⟨by rw [et2]; exact rt1.1, h1.2.1, fun z => by rw [et2, q_I_n (by decide)]; exact rt1.2.2 z⟩, h2, h3, by rw [s2.2.2.1 33 (by decide)]; exact h4, fun i hi => by rw [s2.2.2.2]; exact h5 i hi, fun i hi hi2 => h6 i (by omega) hi2, fun i hi => ?_⟩
        rw [g2]
        by_cases q : i = k
        · rw [if_pos q, q, k_upd_s]
        · rw [if_neg q, k_upd_n q]; exact h7 i (by omega)
      have ro2 : r_ro t2 mn ρ := by
        unfold r_ro at hr ⊢
        simp only [q_I_eq q2 (show 412 ∉ [418, 424] by decide), q_I_eq q2 (show 425 ∉ [418, 424] by decide)]
        exact hr
      obtain ⟨M3, e3, a3, b3, s3⟩ := r_pch hk hmn hV hjj hinj r (by omega) hin ro2
      rw [ekr] at e3
      refine ⟨M3, start _ ?_, ?_, b3, s2.tr s3⟩
      · rw [ee, L_X12_goesPlot_97]
        simp (disch := omega) only [q_ckt, q_lt, q_cI, q_cJ, q_cV, q_cP, q_xI, q_xV, q_xP, q_xJ, g_gk, g_ga, g_gw, g_gp, g_gq, g_P, g_J, q_I_s, q_I_n, q_I_k, nI_add, pk_sub, pk_mul, nI_clamp, n_lt0, n_0lt, n_eq0, n_lt, n_le, n_eq, n_m1, n_m2, n_m9, n_12, n_19, n_10, n_01, n_1n1, n_0n1, n_1n0, n_0n0, n_dI, n_m1lt, q_inb, n_nar, n_nar0, n_nar1, n_bool, Bool.false_eq_true, Bool.true_eq_false, if_true, if_false, ↓reduceIte, Nat.reduceAdd, Nat.reduceMul, Nat.reduceSub, Nat.reduceLT, Nat.reduceLeDiff, Nat.reduceEqDiff, Nat.reduceMod, Nat.reduceDiv, q_R ct.1, go, Nat.lt_irrefl]
        rw [← et1, ← et2]
        simp (disch := omega) only [q_ckt, q_lt, q_cI, q_cJ, q_cV, q_cP, q_xI, q_xV, q_xP, q_xJ, g_gk, g_ga, g_gw, g_gp, g_gq, g_P, g_J, q_I_s, q_I_n, q_I_k, nI_add, pk_sub, pk_mul, nI_clamp, n_lt0, n_0lt, n_eq0, n_lt, n_le, n_eq, n_m1, n_m2, n_m9, n_12, n_19, n_10, n_01, n_1n1, n_0n1, n_1n0, n_0n0, n_dI, n_m1lt, q_inb, n_nar, n_nar0, n_nar1, n_bool, Bool.false_eq_true, Bool.true_eq_false, if_true, if_false, ↓reduceIte, Nat.reduceAdd, Nat.reduceMul, Nat.reduceSub, Nat.reduceLT, Nat.reduceLeDiff, Nat.reduceEqDiff, Nat.reduceMod, Nat.reduceDiv, e3]
      · obtain ⟨y1, y2, y3, y4, y5, y6, y7⟩ := a3
        exact ⟨y1, y2, y3, y4, y5, h6, fun i hi => by rw [y7 i (by omega), k_upd_n (by omega)]⟩
    · rw [if_neg q0]
      obtain ⟨v0, hv0, ev0⟩ := wa
      have L := q_up (σ := ir_M) (V := fun x t => v_X12_goesPlot_97 (d + 8 + r) 412 (nI k) (nI V) (nI (pp k)) (K (18 + pp k)) (if k_ch K (jj k) x = 0 then nI 0 else nI 1) (nI x) t) (N := k_g K) (I := fun x t => (∃ v, v < k_g K ∧ r_rl t (upd Kc (18 + pp k) (nI v))) ∧ r_ro t mn ((List.range x).foldl (fun ρ g => if k_al K (k_q K (jj k)) (nI g) (nI (jj k)) = true then k_pc K vp pp jj mn r (upd A (jj k) (nI g)) (upd G k (nI g)) ρ else ρ) ρ) ∧ q_pz M t ∧ (∀ i, i < k → ir_I t 424 i = G i)) (K := fun t => v_X12_goesPlot_97 (d + 8 + r) 412 (nI k) (nI V) (nI (pp k)) (K (18 + pp k)) (nI 1) (nI (k_g K)) t) (by
        rintro x t hx ⟨⟨v, hv, hrt⟩, hro, st, hg⟩
        obtain ⟨t1, q1, r1, f1, f2⟩ := look t v x (if k_ch K (jj k) x = 0 then nI 0 else nI 1) hv hx hrt
        have ec : k_ch K (jj k) (x + 1) = if k_al K (k_q K (jj k)) (nI x) (nI (jj k)) = true then k_ch K (jj k) x ||| 2 ^ x else k_ch K (jj k) x := rfl
        rw [k_foldl]
        by_cases qa : k_al K (k_q K (jj k)) (nI x) (nI (jj k)) = true
        · rw [if_pos qa] at ec ⊢
          have ne : ¬ k_ch K (jj k) (x + 1) = 0 := fun w => by
            have := (k_ch_0 (K := K) (i := jj k) (x + 1)).mp w x (by omega)
            rw [qa] at this
            exact nomatch this
          rw [if_neg ne]
          obtain ⟨t2, et2⟩ : ∃ N, N = ir_sI (ir_sI t1 413 (18 + pp k) (nI x)) 424 k (nI x) := ⟨_, rfl⟩
          have s2 : q_pz t1 t2 := by
            rw [et2]
            exact (q_pr_k r1.1).tr (q_pq_eq (M := ir_sI t1 413 (18 + pp k) (nI x)) r1.1 (S := [424]) (q_eq.sI (by decide)) (by decide) (by decide) (by decide)).pz
          have sM := (st.tr (q_pq_eq hrt.1 q1 (by decide) (by decide) (by decide)).pz).tr s2
          have sa : k_sa Kc (upd Kc (18 + pp k) (nI x)) := k_sa_u (by omega)
          have hin : r_pin K pp mn r (upd A (jj k) (nI x)) (upd G k (nI x)) (upd Kc (18 + pp k) (nI x)) t2 := by
            refine ⟨⟨s2.1, k_ask_k h1.2.1 (by omega) (by omega), fun z => ?_⟩, h2.tr sa, fun j hj => ?_, by rw [sM.2.2.2.2.2.2.1 33 (by decide)]; exact h4, fun i hi => by rw [sM.2.2.2.2.2.2.2]; exact h5 i hi, fun i hi hi2 => ?_, fun i hi => ?_⟩
            · rw [et2, q_I_n (by decide), q_I_u, r1.2.2]
              by_cases q : z = 18 + pp k
              · rw [if_pos q, q, k_upd_s]
              · rw [if_neg q, k_upd_n q, k_upd_n q]
            · have e := k_as_u (K := Kc) h1.2.1 (i := jj k) (g := x) (by omega) (by omega) (j := j) (by omega)
              rw [qc, k_sa_al h2, ← hqj, qa, if_pos rfl, hqj] at e
              rw [e]
              by_cases q : j = jj k
              · rw [if_pos q, q, k_upd_s]
              · rw [if_neg q, k_upd_n q]; exact h3 j hj
            · rw [k_upd_n (fun w => by have := hinj i k hi2 hkm (by omega); omega)]
              exact h6 i (by omega) hi2
            · rw [et2, q_I_u]
              by_cases q : i = k
              · rw [if_pos q, q, k_upd_s]
              · rw [if_neg q, k_upd_n q, q_I_n (by decide), q_I_eq q1 (by decide)]
                exact hg i (by omega)
          have ro2 : r_ro t2 mn ((List.range x).foldl (fun ρ g => if k_al K (k_q K (jj k)) (nI g) (nI (jj k)) = true then k_pc K vp pp jj mn r (upd A (jj k) (nI g)) (upd G k (nI g)) ρ else ρ) ρ) := by
            unfold r_ro at hro ⊢
            simp only [et2, q_I_n (show (412 : Nat) ≠ 424 by decide), q_I_n (show (425 : Nat) ≠ 424 by decide), q_I_n (show (412 : Nat) ≠ 413 by decide), q_I_n (show (425 : Nat) ≠ 413 by decide), q_I_eq q1 (show 412 ∉ [418] by decide), q_I_eq q1 (show 425 ∉ [418] by decide)]
            exact hro
          obtain ⟨t3, e3, a3, b3, s3⟩ := r_pch hk hmn hV hjj hinj r (by omega) hin ro2
          rw [ekr] at e3
          exact ⟨t3, ⟨⟨x, hx, a3.1⟩, b3, sM.tr s3.pz, fun i hi => by rw [a3.2.2.2.2.2.2 i (by omega), k_upd_n (by omega)]⟩, f2 qa t2 t3 et2 e3⟩
        · rw [if_neg qa] at ec ⊢
          rw [ec]
          refine ⟨t1, ⟨⟨v, hv, r1⟩, ?_, st.tr (q_pq_eq hrt.1 q1 (by decide) (by decide) (by decide)).pz, fun i hi => by rw [q_I_eq q1 (by decide)]; exact hg i hi⟩, f1 (Bool.eq_false_iff.mpr qa)⟩
          unfold r_ro at hro ⊢
          simp only [q_I_eq q1 (show 412 ∉ [418] by decide), q_I_eq q1 (show 425 ∉ [418] by decide)]
          exact hro) (by
        rintro t _
        rw [if_neg q0]) (i := 0) (t := M) (by omega) ⟨⟨v0, hv0, by rw [ev0]; exact h1⟩, hr, (show q_pq M M from ⟨q_st.rf h1.1, rfl, fun _ _ => rfl, fun _ => rfl⟩).pz, fun i hi => h7 i (by omega)⟩
      obtain ⟨t, ⟨⟨v, hv, hrt⟩, hro, st, hg⟩, ee⟩ := L
      have sa : k_sa Kc (upd Kc (18 + pp k) (nI v)) := k_sa_u (by omega)
      have go := r_go (d := d + 7 + r) hrt
      rw [(k_sa_n sa).2.1, n2, show d + 7 + r + 1 = d + 8 + r by omega] at go
      obtain ⟨t1, et1⟩ : ∃ N, N = ir_sI t 413 (18 + pp k) (K (18 + pp k)) := ⟨_, rfl⟩
      have rt1 : r_rl t1 Kc := by
        refine ⟨by rw [et1]; exact hrt.1, h1.2.1, fun z => ?_⟩
        rw [et1, q_I_u, hrt.2.2]
        by_cases q : z = 18 + pp k
        · rw [if_pos q, q, wk]
        · rw [if_neg q, k_upd_n q]
      have s1 : q_pz t t1 := by rw [et1]; exact q_pr_k hrt.1
      have sM := (st.tr s1).pq (funext fun z => (rt1.2.2 z).trans (h1.2.2 z).symm)
      refine ⟨t1, start _ ?_, ⟨rt1, h2, h3, by rw [sM.2.2.1 33 (by decide)]; exact h4, fun i hi => by rw [sM.2.2.2]; exact h5 i hi, h6, fun i hi => by rw [et1, q_I_n (by decide)]; exact hg i (by omega)⟩, ?_, sM⟩
      · refine Eq.trans ?_ (ee.trans ?_)
        · rw [if_pos (show k_ch K (jj k) 0 = 0 from rfl)]
        · rw [L_X12_goesPlot_97]
          simp (disch := omega) only [q_ckt, q_lt, q_cI, q_cJ, q_cV, q_cP, q_xI, q_xV, q_xP, q_xJ, g_gk, g_ga, g_gw, g_gp, g_gq, g_P, g_J, q_I_s, q_I_n, q_I_k, nI_add, pk_sub, pk_mul, nI_clamp, n_lt0, n_0lt, n_eq0, n_lt, n_le, n_eq, n_m1, n_m2, n_m9, n_12, n_19, n_10, n_01, n_1n1, n_0n1, n_1n0, n_0n0, n_dI, n_m1lt, q_inb, n_nar, n_nar0, n_nar1, n_bool, Bool.false_eq_true, Bool.true_eq_false, if_true, if_false, ↓reduceIte, Nat.reduceAdd, Nat.reduceMul, Nat.reduceSub, Nat.reduceLT, Nat.reduceLeDiff, Nat.reduceEqDiff, Nat.reduceMod, Nat.reduceDiv, q_R hrt.1, go, Nat.lt_irrefl]
          rw [← et1]
      · unfold r_ro at hro ⊢
        simp only [et1, q_I_n (show (412 : Nat) ≠ 413 by decide), q_I_n (show (425 : Nat) ≠ 413 by decide)]
        exact hro
end PLR
