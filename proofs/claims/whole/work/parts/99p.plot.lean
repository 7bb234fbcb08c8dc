/-! pointers laid anew -/
section PT
variable {M : ir_M} {a b k j c n v : Nat} {i : Int32}
theorem p_gk : ir_gk (ir_sP M a k v) b c = ir_gk M b c := rfl
theorem p_gq : ir_gq (ir_sP M a k v) b c = ir_gq M b c := rfl
theorem p_I : ir_I (ir_sP M a k v) b n = ir_I M b n := rfl
theorem p_J : ir_J (ir_sP M a k v) b n = ir_J M b n := rfl
theorem p_Ps : ir_P (ir_sP M a k v) a k = v := by
  show (if a = a then (fun j => if j = k then v else M.2.2.1 a j) else M.2.2.1 a) k = v
  rw [if_pos rfl]
  show (if k = k then v else _) = v
  rw [if_pos rfl]
theorem p_Pk (h : j ≠ k) : ir_P (ir_sP M a k v) a j = ir_P M a j := by
  show (if a = a then (fun j => if j = k then v else M.2.2.1 a j) else M.2.2.1 a) j = _
  rw [if_pos rfl]
  show (if j = k then v else _) = _
  rw [if_neg h]
  rfl
theorem p_Pn (h : b ≠ a) : ir_P (ir_sP M a k v) b j = ir_P M b j := by
  show (if b = a then (fun j => if j = k then v else M.2.2.1 a j) else M.2.2.1 b) j = _
  rw [if_neg h]
  rfl
theorem q_PI_P (hp : q_PI M) (hn : (q_pt.all fun l => l.all fun e => !(e.1 == a && e.2.1 == k)) = true) (h133 : a ≠ 133) : q_PI (ir_sP M a k v) := by
  refine ⟨hp.1, fun l hl e he => ?_, ?_⟩
  rotate_left
  · have e : ∀ j, ir_P (ir_sP M a k v) 133 j = ir_P M 133 j := fun j => p_Pn (fun w => h133 w.symm)
    unfold ir_P at e
    rw [e, e]
    exact hp.2.2
  have h1 := List.all_eq_true.mp (List.all_eq_true.mp hn l hl) e he
  show ir_P (ir_sP M a k v) e.1 e.2.1 = e.2.2
  have old : ir_P M e.1 e.2.1 = e.2.2 := hp.2.1 l hl e he
  by_cases q : e.1 = a
  · by_cases q2 : e.2.1 = k
    · rw [q, q2] at h1
      simp at h1
    · rw [← old, q, p_Pk q2]
  · rw [p_Pn q]
    exact old
theorem q_st_P (hp : q_PI M) (hn : (q_pt.all fun l => l.all fun e => !(e.1 == a && e.2.1 == k)) = true) (h133 : a ≠ 133) (ha : a < 1000000) : q_st 0 M (ir_sP M a k v) := ⟨⟨q_PI_P hp hn h133, fun x hx => ⟨rfl, rfl, if_neg (show ¬ x = a by omega)⟩, Nat.le_refl _, Nat.le_refl _⟩, fun _ _ => rfl, ⟨fun _ _ _ => rfl, fun _ _ => rfl⟩, fun _ _ _ => rfl⟩
theorem q_gv0 (h : q_PI M) (e : (Nat.beq (ir_kd a) c && Nat.blt a 437 && Nat.blt 0 v && Nat.blt v 437) = true) : ir_gv M a c v = true := by
  simp only [Bool.and_eq_true] at e
  obtain ⟨⟨⟨e1, e2⟩, e3⟩, e4⟩ := e
  have h1 : ir_nx M = 437 := h.1
  have e5 : Nat.blt a 1000000 = true := Nat.ble_eq_true_of_le (by have := Nat.le_of_ble_eq_true e2; omega)
  unfold ir_gv ir_gk
  rw [h1, e1, e2, e3, e4, e5]
  rfl
theorem q_gpV (h : q_PI M) (e : (Nat.beq (ir_kd a) c && Nat.blt a 437) = true) (hP : ir_P M a k = v) (hv : Nat.blt 0 v = true) : ir_gp M a c k = true := q_gp0 h e hP hv
end PT
/-! plots -/
def k_pw (K : Nat → Int32) (vp : Nat) (A G : Nat → Int32) (ρ : Bool × Int32 × (Nat → Int32)) : Bool × Int32 × (Nat → Int32) := if ρ.1 = true ∧ ¬ k_fw K (k_fr K A) vp < ρ.2.1 then ρ else (true, k_fw K (k_fr K A) vp, G)
def k_pc (K : Nat → Int32) (vp : Nat) (pp jj : Nat → Nat) (mn : Nat) : Nat → (Nat → Int32) → (Nat → Int32) → Bool × Int32 × (Nat → Int32) → Bool × Int32 × (Nat → Int32)
  | 0, A, G, ρ => k_pw K vp A G ρ
  | r + 1, A, G, ρ => if k_ch K (jj (mn - (r + 1))) (k_g K) = 0 then k_pc K vp pp jj mn r A (upd G (mn - (r + 1)) (K (18 + pp (mn - (r + 1))))) ρ else (List.range (k_g K)).foldl (fun ρ g => if k_al K (k_q K (jj (mn - (r + 1)))) (nI g) (nI (jj (mn - (r + 1)))) = true then k_pc K vp pp jj mn r (upd A (jj (mn - (r + 1))) (nI g)) (upd G (mn - (r + 1)) (nI g)) ρ else ρ) ρ
theorem k_ch_0 {K : Nat → Int32} {i : Nat} : ∀ n, k_ch K i n = 0 ↔ ∀ g, g < n → k_al K (k_q K i) (nI g) (nI i) = false := fun n => by
  constructor
  · intro h g hg
    have := k_ch_bit (K := K) (i := i) (g := g) n
    rw [h, Nat.zero_testBit, decide_eq_true hg, Bool.true_and] at this
    exact this.symm
  · intro h
    refine k_bit_eq fun g => ?_
    rw [k_ch_bit, Nat.zero_testBit]
    by_cases q : g < n
    · rw [h g q, Bool.and_false]
    · rw [decide_eq_false q]; rfl
theorem k_foldl {α : Type} {f : α → Nat → α} {s : α} (n : Nat) : (List.range (n + 1)).foldl f s = f ((List.range n).foldl f s) n := by
  rw [List.range_succ, List.foldl_append]
  rfl
theorem k_pc_t {K : Nat → Int32} {vp : Nat} {pp jj : Nat → Nat} {mn : Nat} : ∀ (r : Nat) (A G : Nat → Int32) (ρ : Bool × Int32 × (Nat → Int32)), (k_pc K vp pp jj mn r A G ρ).1 = true
  | 0, A, G, ρ => by
    show (k_pw K vp A G ρ).1 = true
    unfold k_pw
    by_cases q : ρ.1 = true ∧ ¬ k_fw K (k_fr K A) vp < ρ.2.1
    · rw [if_pos q]; exact q.1
    · rw [if_neg q]
  | r + 1, A, G, ρ => by
    unfold k_pc
    by_cases q : k_ch K (jj (mn - (r + 1))) (k_g K) = 0
    · rw [if_pos q]
      exact k_pc_t r _ _ _
    · rw [if_neg q]
      have key : ∀ n, n ≤ k_g K → k_ch K (jj (mn - (r + 1))) n ≠ 0 → ((List.range n).foldl (fun ρ g => if k_al K (k_q K (jj (mn - (r + 1)))) (nI g) (nI (jj (mn - (r + 1)))) = true then k_pc K vp pp jj mn r (upd A (jj (mn - (r + 1))) (nI g)) (upd G (mn - (r + 1)) (nI g)) ρ else ρ) ρ).1 = true := by
        intro n
        induction n with
        | zero => intro _ h; exact absurd rfl h
        | succ n ih =>
          intro hn h
          rw [k_foldl]
          by_cases qa : k_al K (k_q K (jj (mn - (r + 1)))) (nI n) (nI (jj (mn - (r + 1)))) = true
          · rw [if_pos qa]
            exact k_pc_t r _ _ _
          · rw [if_neg qa]
            refine ih (by omega) (fun w => h ?_)
            show (if _ = true then _ else k_ch K (jj (mn - (r + 1))) n) = 0
            rw [if_neg qa, w]
      exact key (k_g K) (Nat.le_refl _) q
def c_pcP (M : ir_M) : Prop := ir_P M 125 7 = 4 ∧ ir_P M 125 8 = 12 ∧ ir_P M 125 9 = 116
theorem c_pcg {M : ir_M} (hp : q_PI M) (h : c_pcP M) : ir_P M 125 7 = 4 ∧ ir_gp M 125 3 7 = true ∧ ir_P M 125 8 = 12 ∧ ir_gp M 125 3 8 = true ∧ ir_P M 125 9 = 116 ∧ ir_gp M 125 3 9 = true := ⟨h.1, q_gpV hp rfl h.1 rfl, h.2.1, q_gpV hp rfl h.2.1 rfl, h.2.2, q_gpV hp rfl h.2.2 rfl⟩
theorem c_pcP_eq {S : List Nat} {M M' : ir_M} (he : q_eq S M M') (h : c_pcP M) : c_pcP M' := by
  unfold c_pcP ir_P at h ⊢
  rw [he.2]
  exact h
def c_ro (M : ir_M) (mn : Nat) (ρ : Bool × Int32 × (Nat → Int32)) : Prop := (ρ.1 = false ∧ ir_I M 125 2 = 0) ∨ (ρ.1 = true ∧ ir_I M 125 2 = 1 ∧ ir_I M 125 0 = ρ.2.1 ∧ ∀ i, i < mn → ir_I M 126 i = ρ.2.2 i)
def r_ro (M : ir_M) (mn : Nat) (ρ : Bool × Int32 × (Nat → Int32)) : Prop := (ρ.1 = false ∧ ir_I M 412 35 = 0) ∨ (ρ.1 = true ∧ ir_I M 412 35 = 1 ∧ ir_I M 412 34 = ρ.2.1 ∧ ∀ i, i < mn → ir_I M 425 i = ρ.2.2 i)
section PLC
variable {K : Nat → Int32} {vp mn : Nat} {pp jj : Nat → Nat} {d : Nat}
/-- how things lie in the class's choosing -/
def c_pin (K : Nat → Int32) (vp : Nat) (pp jj : Nat → Nat) (mn r : Nat) (A G : Nat → Int32) (M : ir_M) : Prop := c_rl M 12 K ∧ c_pcP M ∧ ir_I M 125 3 = nI mn ∧ ir_I M 125 4 = nI vp ∧ (∀ i, i < mn → ir_I M 127 i = nI (jj i)) ∧ (∀ j, j < k_m K → ir_I M 119 j = nI (k_ch K j (k_g K)))
  ∧ (∀ j, j < k_m K → (∀ i, mn - r ≤ i → i < mn → k_ch K (jj i) (k_g K) ≠ 0 → j ≠ jj i) → ir_I M 117 (3 + j) = A j) ∧ (∀ i, i < mn - r → ir_I M 128 i = G i) ∧ (∀ i, mn - r ≤ i → i < mn → k_ch K (jj i) (k_g K) = 0 → ir_I M 128 i = K (18 + pp i))
theorem c_pw {M : ir_M} {A G : Nat → Int32} {ρ : Bool × Int32 × (Nat → Int32)} (hmn : mn ≤ 3) (hv : vp < k_m K) (hA : ∀ j, j < k_m K → k_gd K (A j)) (h : c_pin K vp pp jj mn 0 A G M) (hr : c_ro M mn ρ) : ∃ M', m_X3_weigh (d + 4) 125 M = ir_oV M' ∧ c_pin K vp pp jj mn 0 A G M' ∧ c_ro M' mn (k_pw K vp A G ρ) ∧ q_st 0 M M' := by
  obtain ⟨h1, h2, h3, h4, h5, h6, h7, h8, h9⟩ := h
  have hk := h1.2.2.1
  have hb := k_bds hk
  have row : ∀ j, j < k_m K → ir_I M 117 (3 + j) = A j := fun j hj => h7 j hj (fun i hi hi2 _ => by omega)
  obtain ⟨M1, e1, q1, r1, f1⟩ := c_fr (d := d) h1 row
  have c1 := c_rl_eq h1 q1 (by decide)
  have p1 := c_pcP_eq q1 h2
  have wa := c_wa (d := d + 1) c1 hv (f1 vp hv) (k_fr_gd hk hA hv)
  have g4 : ir_I M1 125 4 = nI vp := by rw [q_I_eq q1 (by decide)]; exact h4
  have goods1 : ∀ i, i < mn → ir_I M1 128 i = G i := fun i hi => by rw [q_I_eq q1 (by decide)]; exact h8 i (by omega)
  have pin : ∀ N, q_eq [125, 126] M1 N → ir_I N 125 3 = nI mn → ir_I N 125 4 = nI vp → c_pin K vp pp jj mn 0 A G N := fun N qN z3 z4 => by
    refine ⟨q_st_c (q_st_eq c1.1 qN (by decide)) c1, c_pcP_eq qN p1, z3, z4, fun i hi => ?_, fun j hj => ?_, fun j hj _ => ?_, fun i hi => ?_, fun i hi hi2 _ => by omega⟩
    · rw [q_I_eq qN (by decide), q_I_eq q1 (by decide)]; exact h5 i hi
    · rw [q_I_eq qN (by decide), q_I_eq q1 (by decide)]; exact h6 j hj
    · rw [q_I_eq qN (by decide)]; exact r1 j hj
    · rw [q_I_eq qN (by decide)]; exact goods1 i (by omega)
  have z3 : ir_I M1 125 3 = nI mn := by rw [q_I_eq q1 (by decide)]; exact h3
  obtain ⟨f, ef⟩ : ∃ f, f = k_fw K (k_fr K A) vp := ⟨_, rfl⟩
  rw [← ef] at wa
  have base : ∀ X, (ir_I M1 125 2 = 0 ∨ f < ir_I M1 125 0) → v_X3_weigh_57 (d + 3) 125 f M1 = ir_oV X → m_X3_weigh (d + 4) 125 M = ir_oV X := fun X hx hX => by
    rw [E_X3_weigh]
    by_cases q0 : ir_I M1 125 2 = 0
    · simp (disch := omega) only [q_ckt, q_lt, q_cI, q_cJ, q_cV, q_cP, q_xI, q_xV, q_xP, q_xJ, g_gk, g_ga, g_gw, g_gp, g_gq, g_P, g_J, q_I_s, q_I_n, q_I_k, nI_add, pk_sub, pk_mul, nI_clamp, n_lt0, n_0lt, n_eq0, n_lt, n_le, n_eq, n_m1, n_m2, n_m9, n_12, n_19, n_10, n_01, n_1n1, n_0n1, n_1n0, n_0n0, n_dI, n_m1lt, q_inb, n_nar, n_nar0, n_nar1, n_bool, Bool.false_eq_true, Bool.true_eq_false, if_true, if_false, ↓reduceIte, Nat.reduceAdd, Nat.reduceMul, Nat.reduceSub, Nat.reduceLT, Nat.reduceLeDiff, Nat.reduceEqDiff, Nat.reduceMod, Nat.reduceDiv, c_pcg h1.1 h2, q_T h1.1, q_F h1.1, c_use h1, e1, c_pcg c1.1 p1, q_L c1.1, q_F c1.1, g4, wa, q0]
      exact hX
    · have qf := hx.resolve_left q0
      simp (disch := omega) only [q_ckt, q_lt, q_cI, q_cJ, q_cV, q_cP, q_xI, q_xV, q_xP, q_xJ, g_gk, g_ga, g_gw, g_gp, g_gq, g_P, g_J, q_I_s, q_I_n, q_I_k, nI_add, pk_sub, pk_mul, nI_clamp, n_lt0, n_0lt, n_eq0, n_lt, n_le, n_eq, n_m1, n_m2, n_m9, n_12, n_19, n_10, n_01, n_1n1, n_0n1, n_1n0, n_0n0, n_dI, n_m1lt, q_inb, n_nar, n_nar0, n_nar1, n_bool, Bool.false_eq_true, Bool.true_eq_false, if_true, if_false, ↓reduceIte, Nat.reduceAdd, Nat.reduceMul, Nat.reduceSub, Nat.reduceLT, Nat.reduceLeDiff, Nat.reduceEqDiff, Nat.reduceMod, Nat.reduceDiv, c_pcg h1.1 h2, q_T h1.1, q_F h1.1, c_use h1, e1, c_pcg c1.1 p1, q_L c1.1, q_F c1.1, g4, wa, q0, qf]
      exact hX
  obtain ⟨N, eN⟩ : ∃ N, N = ir_cp (ir_sI (ir_sI M1 125 2 (nI 1)) 125 0 f) 128 0 126 0 3 := ⟨_, rfl⟩
  have qN : q_eq [125, 126] M1 N := by
    rw [eN]
    exact ((q_eq.sI (by decide)).tr (q_eq.sI (by decide))).tr (q_eq.cp (by decide))
  have take : v_X3_weigh_57 (d + 3) 125 f M1 = ir_oV N := by
    have cg : ir_cpg M1 128 (nI 0) 126 (nI 0) (nI 3) = true := q_cpg0 (q_gk0 c1.1 rfl) (q_gk0 c1.1 rfl) rfl rfl (by rw [q_ln_eq (by decide)]; decide) (by rw [q_ln_eq (by decide)]; decide) (by decide)
    rw [L_X3_weigh_57, eN]
    simp (disch := omega) only [q_ckt, q_lt, q_cI, q_cJ, q_cV, q_cP, q_xI, q_xV, q_xP, q_xJ, g_gk, g_ga, g_gw, g_gp, g_gq, g_P, g_J, q_I_s, q_I_n, q_I_k, nI_add, pk_sub, pk_mul, nI_clamp, n_lt0, n_0lt, n_eq0, n_lt, n_le, n_eq, n_m1, n_m2, n_m9, n_12, n_19, n_10, n_01, n_1n1, n_0n1, n_1n0, n_0n0, n_dI, n_m1lt, q_inb, n_nar, n_nar0, n_nar1, n_bool, Bool.false_eq_true, Bool.true_eq_false, if_true, if_false, ↓reduceIte, Nat.reduceAdd, Nat.reduceMul, Nat.reduceSub, Nat.reduceLT, Nat.reduceLeDiff, Nat.reduceEqDiff, Nat.reduceMod, Nat.reduceDiv, q_L c1.1, show ir_isB (nI 1) = true from rfl, Bool.and_self, g_cg, cg]
  have roN : c_ro N mn (true, f, G) := by
    refine Or.inr ⟨rfl, ?_, ?_, fun i hi => ?_⟩
    · rw [eN, h_In (by decide), q_I_k (by decide), q_I_s]
      rfl
    · rw [eN, h_In (by decide), q_I_s]
    · rw [eN, h_Is (by omega), q_I_n (by decide), q_I_n (by decide)]
      exact goods1 i hi
  have s1 := q_st_eq h1.1 q1 (by decide)
  have sN := q_st_eq c1.1 qN (by decide)
  have n3 : ir_I N 125 3 = nI mn := by rw [eN, h_In (by decide), q_I_k (by decide), q_I_k (by decide)]; exact z3
  have n4 : ir_I N 125 4 = nI vp := by rw [eN, h_In (by decide), q_I_k (by decide), q_I_k (by decide)]; exact g4
  unfold k_pw
  rw [← ef]
  rcases hr with ⟨a1, a2⟩ | ⟨a1, a2, a3, a4⟩
  · rw [if_neg (fun w => by rw [a1] at w; exact nomatch w.1)]
    refine ⟨N, base N (Or.inl ?_) take, pin N qN n3 n4, roN, s1.tr sN⟩
    rw [q_I_eq q1 (by decide)]; exact a2
  · have m0 : ir_I M1 125 0 = ρ.2.1 := by rw [q_I_eq q1 (by decide)]; exact a3
    have m2 : ir_I M1 125 2 = 1 := by rw [q_I_eq q1 (by decide)]; exact a2
    by_cases qf : f < ρ.2.1
    · rw [if_neg (fun w => w.2 qf)]
      refine ⟨N, base N (Or.inr ?_) take, pin N qN n3 n4, roN, s1.tr sN⟩
      rw [m0]; exact qf
    · rw [if_pos ⟨a1, qf⟩]
      refine ⟨M1, ?_, pin M1 (q_eq.rf _ _) z3 g4, Or.inr ⟨a1, m2, m0, fun i hi => by rw [q_I_eq q1 (by decide)]; exact a4 i hi⟩, s1⟩
      rw [E_X3_weigh]
      simp (disch := omega) only [q_ckt, q_lt, q_cI, q_cJ, q_cV, q_cP, q_xI, q_xV, q_xP, q_xJ, g_gk, g_ga, g_gw, g_gp, g_gq, g_P, g_J, q_I_s, q_I_n, q_I_k, nI_add, pk_sub, pk_mul, nI_clamp, n_lt0, n_0lt, n_eq0, n_lt, n_le, n_eq, n_m1, n_m2, n_m9, n_12, n_19, n_10, n_01, n_1n1, n_0n1, n_1n0, n_0n0, n_dI, n_m1lt, q_inb, n_nar, n_nar0, n_nar1, n_bool, Bool.false_eq_true, Bool.true_eq_false, if_true, if_false, ↓reduceIte, Nat.reduceAdd, Nat.reduceMul, Nat.reduceSub, Nat.reduceLT, Nat.reduceLeDiff, Nat.reduceEqDiff, Nat.reduceMod, Nat.reduceDiv, c_pcg h1.1 h2, q_T h1.1, q_F h1.1, c_use h1, e1, c_pcg c1.1 p1, q_L c1.1, q_F c1.1, g4, wa, m2, m0, qf]
theorem c_pch (hmn : mn ≤ 3) (hv : vp < k_m K) (hjj : ∀ i, i < mn → jj i < k_m K) (hinj : ∀ i i', i < mn → i' < mn → jj i = jj i' → i = i') : ∀ (r : Nat) {A G : Nat → Int32} {ρ : Bool × Int32 × (Nat → Int32)} {M : ir_M}, r ≤ mn → (∀ j, j < k_m K → k_gd K (A j)) → c_pin K vp pp jj mn r A G M → c_ro M mn ρ → ∃ M', m_X3_choose (d + 5 + r) 125 (nI (mn - r)) M = ir_oV M' ∧ c_pin K vp pp jj mn r A G M' ∧ c_ro M' mn (k_pc K vp pp jj mn r A G ρ) ∧ q_st 0 M M'
  | 0, A, G, ρ, M, _, hA, h, hr => by
    obtain ⟨M1, e1, a1, b1, s1⟩ := c_pw (d := d) hmn hv hA h hr
    refine ⟨M1, ?_, a1, b1, s1⟩
    rw [show d + 5 + 0 = d + 4 + 1 from rfl, E_X3_choose]
    simp (disch := omega) only [q_ckt, q_lt, q_cI, q_cJ, q_cV, q_cP, q_xI, q_xV, q_xP, q_xJ, g_gk, g_ga, g_gw, g_gp, g_gq, g_P, g_J, q_I_s, q_I_n, q_I_k, nI_add, pk_sub, pk_mul, nI_clamp, n_lt0, n_0lt, n_eq0, n_lt, n_le, n_eq, n_m1, n_m2, n_m9, n_12, n_19, n_10, n_01, n_1n1, n_0n1, n_1n0, n_0n0, n_dI, n_m1lt, q_inb, n_nar, n_nar0, n_nar1, n_bool, Bool.false_eq_true, Bool.true_eq_false, if_true, if_false, ↓reduceIte, Nat.reduceAdd, Nat.reduceMul, Nat.reduceSub, Nat.reduceLT, Nat.reduceLeDiff, Nat.reduceEqDiff, Nat.reduceMod, Nat.reduceDiv, q_L h.1.1, h.2.2.1, show ¬ mn - 0 < mn by omega, e1]
  | r + 1, A, G, ρ, M, hle, hA, h, hr => by
    have hk := h.1.2.2.1
    have hb := k_bds hk
    obtain ⟨h1, h2, h3, h4, h5, h6, h7, h8, h9⟩ := h
    obtain ⟨k, ek⟩ : ∃ k, k = mn - (r + 1) := ⟨_, rfl⟩
    have hkm : k < mn := by omega
    have ekr : mn - r = k + 1 := by omega
    have hj := hjj k hkm
    have pj := h5 k hkm
    have may := c_may (d := d + 4 + r) h1.1 hk hj (h6 _ hj)
    rw [show d + 4 + r + 1 = d + 5 + r by omega] at may
    have ed : d + 5 + (r + 1) = d + 5 + r + 1 := by omega
    unfold k_pc
    rw [← ek]
    by_cases q0 : k_ch K (jj k) (k_g K) = 0
    · rw [if_pos q0]
      have hin : c_pin K vp pp jj mn r A (upd G k (K (18 + pp k))) M := by
        refine ⟨h1, h2, h3, h4, h5, h6, fun j hj' hc => h7 j hj' (fun i hi hi2 hne => ?_), fun i hi => ?_, fun i hi hi2 => h9 i (by omega) hi2⟩
        · by_cases qi : i = k
          · rw [qi] at hne; exact absurd q0 hne
          · exact hc i (by omega) hi2 hne
        · by_cases qi : i = k
          · rw [qi, k_upd_s]; exact h9 k (by omega) hkm q0
          · rw [k_upd_n qi]; exact h8 i (by omega)
      obtain ⟨M1, e1, a1, b1, s1⟩ := c_pch hmn hv hjj hinj r (by omega) hA hin hr
      refine ⟨M1, ?_, ?_, b1, s1⟩
      · rw [if_pos q0] at may
        rw [ekr] at e1
        rw [ed, E_X3_choose]
        simp (disch := omega) only [q_ckt, q_lt, q_cI, q_cJ, q_cV, q_cP, q_xI, q_xV, q_xP, q_xJ, g_gk, g_ga, g_gw, g_gp, g_gq, g_P, g_J, q_I_s, q_I_n, q_I_k, nI_add, pk_sub, pk_mul, nI_clamp, n_lt0, n_0lt, n_eq0, n_lt, n_le, n_eq, n_m1, n_m2, n_m9, n_12, n_19, n_10, n_01, n_1n1, n_0n1, n_1n0, n_0n0, n_dI, n_m1lt, q_inb, n_nar, n_nar0, n_nar1, n_bool, Bool.false_eq_true, Bool.true_eq_false, if_true, if_false, ↓reduceIte, Nat.reduceAdd, Nat.reduceMul, Nat.reduceSub, Nat.reduceLT, Nat.reduceLeDiff, Nat.reduceEqDiff, Nat.reduceMod, Nat.reduceDiv, q_L h1.1, h3, hkm, pj, c_pcg h1.1 h2, q_F h1.1, may, e1]
      · obtain ⟨g1, g2, g3, g4, g5, g6, g7, g8, g9⟩ := a1
        refine ⟨g1, g2, g3, g4, g5, g6, fun j hj' hc => g7 j hj' (fun i hi hi2 hne => hc i (by omega) hi2 hne), fun i hi => ?_, fun i hi hi2 hz => ?_⟩
        · rw [g8 i (by omega), k_upd_n (by omega)]
        · by_cases qi : i = k
          · rw [qi, g8 k (by omega), k_upd_s]
          · exact g9 i (by omega) hi2 hz
    · rw [if_neg q0] at may ⊢
      have L := q_up (σ := ir_M) (V := fun x t => v_X3_choose_46 (d + 5 + r) 125 (nI k) (nI (jj k)) (nI x) t) (N := k_g K) (I := fun x t => c_pin K vp pp jj mn (r + 1) A G t ∧ c_ro t mn ((List.range x).foldl (fun ρ g => if k_al K (k_q K (jj k)) (nI g) (nI (jj k)) = true then k_pc K vp pp jj mn r (upd A (jj k) (nI g)) (upd G k (nI g)) ρ else ρ) ρ) ∧ q_st 0 M t) (K := ir_oV) (by
        rintro x t hx ⟨ht, hro, hst⟩
        obtain ⟨g1, g2, g3, g4, g5, g6, g7, g8, g9⟩ := ht
        have ma := c_ma (d := d + 4 + r) g1.1 hk hj (g6 _ hj) hx
        rw [show d + 4 + r + 1 = d + 5 + r by omega] at ma
        rw [k_foldl]
        by_cases qa : k_al K (k_q K (jj k)) (nI x) (nI (jj k)) = true
        · rw [if_pos qa] at ma ⊢
          obtain ⟨t1, et1⟩ : ∃ N, N = ir_sI (ir_sI t 128 k (nI x)) 117 (3 + jj k) (nI x) := ⟨_, rfl⟩
          have q1 : q_eq [117, 128] t t1 := by rw [et1]; exact (q_eq.sI (by decide)).tr (q_eq.sI (by decide))
          have s1 := q_st_eq g1.1 q1 (by decide)
          have hin : c_pin K vp pp jj mn r (upd A (jj k) (nI x)) (upd G k (nI x)) t1 := by
            refine ⟨q_st_c s1 g1, c_pcP_eq q1 g2, by rw [q_I_eq q1 (by decide)]; exact g3, by rw [q_I_eq q1 (by decide)]; exact g4, fun i hi => by rw [q_I_eq q1 (by decide)]; exact g5 i hi, fun j hj' => by rw [q_I_eq q1 (by decide)]; exact g6 j hj', fun j hj' hc => ?_, fun i hi => ?_, fun i hi hi2 hz => ?_⟩
            · rw [et1, q_I_u]
              by_cases qj : j = jj k
              · rw [if_pos (by omega), qj, k_upd_s]
              · rw [if_neg (by omega), k_upd_n qj, q_I_n (by decide)]
                refine g7 j hj' (fun i hi hi2 hne => ?_)
                by_cases qi : i = k
                · rw [qi]; exact qj
                · exact hc i (by omega) hi2 hne
            · rw [et1, q_I_n (by decide), q_I_u]
              by_cases qi : i = k
              · rw [if_pos qi, qi, k_upd_s]
              · rw [if_neg qi, k_upd_n qi]
                exact g8 i (by omega)
            · rw [et1, q_I_n (by decide), q_I_k (by omega)]
              exact g9 i (by omega) hi2 hz
          have ro1 : c_ro t1 mn ((List.range x).foldl (fun ρ g => if k_al K (k_q K (jj k)) (nI g) (nI (jj k)) = true then k_pc K vp pp jj mn r (upd A (jj k) (nI g)) (upd G k (nI g)) ρ else ρ) ρ) := by
            unfold c_ro at hro ⊢
            simp only [q_I_eq q1 (show 125 ∉ [117, 128] by decide), q_I_eq q1 (show 126 ∉ [117, 128] by decide)]
            exact hro
          obtain ⟨t2, e2, a2, b2, s2⟩ := c_pch hmn hv hjj hinj r (by omega) (k_upd_gd (i := jj k) hA hx) hin ro1
          refine ⟨t2, ⟨?_, b2, (hst.tr s1).tr s2⟩, ?_⟩
          · obtain ⟨y1, y2, y3, y4, y5, y6, y7, y8, y9⟩ := a2
            refine ⟨y1, y2, y3, y4, y5, y6, fun j hj' hc => ?_, fun i hi => ?_, fun i hi hi2 hz => ?_⟩
            · rw [y7 j hj' (fun i hi hi2 hne => hc i (by omega) hi2 hne), k_upd_n (hc k (by omega) hkm q0)]
            · rw [y8 i (by omega), k_upd_n (by omega)]
            · by_cases qi : i = k
              · rw [qi] at hz; exact absurd hz q0
              · exact y9 i (by omega) hi2 hz
          · rw [ekr] at e2
            rw [L_X3_choose_46]
            simp (disch := omega) only [q_ckt, q_lt, q_cI, q_cJ, q_cV, q_cP, q_xI, q_xV, q_xP, q_xJ, g_gk, g_ga, g_gw, g_gp, g_gq, g_P, g_J, q_I_s, q_I_n, q_I_k, nI_add, pk_sub, pk_mul, nI_clamp, n_lt0, n_0lt, n_eq0, n_lt, n_le, n_eq, n_m1, n_m2, n_m9, n_12, n_19, n_10, n_01, n_1n1, n_0n1, n_1n0, n_0n0, n_dI, n_m1lt, q_inb, n_nar, n_nar0, n_nar1, n_bool, Bool.false_eq_true, Bool.true_eq_false, if_true, if_false, ↓reduceIte, Nat.reduceAdd, Nat.reduceMul, Nat.reduceSub, Nat.reduceLT, Nat.reduceLeDiff, Nat.reduceEqDiff, Nat.reduceMod, Nat.reduceDiv, c_pcg g1.1 g2, q_T g1.1, c_use g1, hx, q_F g1.1, ma, q_L g1.1]
            rw [← et1]
            simp (disch := omega) only [q_ckt, q_lt, q_cI, q_cJ, q_cV, q_cP, q_xI, q_xV, q_xP, q_xJ, g_gk, g_ga, g_gw, g_gp, g_gq, g_P, g_J, q_I_s, q_I_n, q_I_k, nI_add, pk_sub, pk_mul, nI_clamp, n_lt0, n_0lt, n_eq0, n_lt, n_le, n_eq, n_m1, n_m2, n_m9, n_12, n_19, n_10, n_01, n_1n1, n_0n1, n_1n0, n_0n0, n_dI, n_m1lt, q_inb, n_nar, n_nar0, n_nar1, n_bool, Bool.false_eq_true, Bool.true_eq_false, if_true, if_false, ↓reduceIte, Nat.reduceAdd, Nat.reduceMul, Nat.reduceSub, Nat.reduceLT, Nat.reduceLeDiff, Nat.reduceEqDiff, Nat.reduceMod, Nat.reduceDiv, q_L (q_PI_eq q1 g1.1), e2]
        · rw [if_neg qa] at ma ⊢
          refine ⟨t, ⟨⟨g1, g2, g3, g4, g5, g6, g7, g8, g9⟩, hro, hst⟩, ?_⟩
          rw [L_X3_choose_46]
          simp (disch := omega) only [q_ckt, q_lt, q_cI, q_cJ, q_cV, q_cP, q_xI, q_xV, q_xP, q_xJ, g_gk, g_ga, g_gw, g_gp, g_gq, g_P, g_J, q_I_s, q_I_n, q_I_k, nI_add, pk_sub, pk_mul, nI_clamp, n_lt0, n_0lt, n_eq0, n_lt, n_le, n_eq, n_m1, n_m2, n_m9, n_12, n_19, n_10, n_01, n_1n1, n_0n1, n_1n0, n_0n0, n_dI, n_m1lt, q_inb, n_nar, n_nar0, n_nar1, n_bool, Bool.false_eq_true, Bool.true_eq_false, if_true, if_false, ↓reduceIte, Nat.reduceAdd, Nat.reduceMul, Nat.reduceSub, Nat.reduceLT, Nat.reduceLeDiff, Nat.reduceEqDiff, Nat.reduceMod, Nat.reduceDiv, c_pcg g1.1 g2, q_T g1.1, c_use g1, hx, q_F g1.1, ma]) (by
        rintro t ⟨ht, hro, hst⟩
        rw [L_X3_choose_46]
        simp (disch := omega) only [q_ckt, q_lt, q_cI, q_cJ, q_cV, q_cP, q_xI, q_xV, q_xP, q_xJ, g_gk, g_ga, g_gw, g_gp, g_gq, g_P, g_J, q_I_s, q_I_n, q_I_k, nI_add, pk_sub, pk_mul, nI_clamp, n_lt0, n_0lt, n_eq0, n_lt, n_le, n_eq, n_m1, n_m2, n_m9, n_12, n_19, n_10, n_01, n_1n1, n_0n1, n_1n0, n_0n0, n_dI, n_m1lt, q_inb, n_nar, n_nar0, n_nar1, n_bool, Bool.false_eq_true, Bool.true_eq_false, if_true, if_false, ↓reduceIte, Nat.reduceAdd, Nat.reduceMul, Nat.reduceSub, Nat.reduceLT, Nat.reduceLeDiff, Nat.reduceEqDiff, Nat.reduceMod, Nat.reduceDiv, c_pcg ht.1.1 ht.2.1, q_T ht.1.1, c_use ht.1, Nat.lt_irrefl]) (i := 0) (t := M) (by omega) ⟨⟨h1, h2, h3, h4, h5, h6, h7, h8, h9⟩, hr, q_st.rf h1.1⟩
      obtain ⟨t, ⟨a, b, c⟩, ee⟩ := L
      refine ⟨t, ?_, a, b, c⟩
      rw [ed, E_X3_choose]
      simp (disch := omega) only [q_ckt, q_lt, q_cI, q_cJ, q_cV, q_cP, q_xI, q_xV, q_xP, q_xJ, g_gk, g_ga, g_gw, g_gp, g_gq, g_P, g_J, q_I_s, q_I_n, q_I_k, nI_add, pk_sub, pk_mul, nI_clamp, n_lt0, n_0lt, n_eq0, n_lt, n_le, n_eq, n_m1, n_m2, n_m9, n_12, n_19, n_10, n_01, n_1n1, n_0n1, n_1n0, n_0n0, n_dI, n_m1lt, q_inb, n_nar, n_nar0, n_nar1, n_bool, Bool.false_eq_true, Bool.true_eq_false, if_true, if_false, ↓reduceIte, Nat.reduceAdd, Nat.reduceMul, Nat.reduceSub, Nat.reduceLT, Nat.reduceLeDiff, Nat.reduceEqDiff, Nat.reduceMod, Nat.reduceDiv, q_L h1.1, h3, hkm, pj, c_pcg h1.1 h2, q_F h1.1, may]
      exact ee
end PLC
