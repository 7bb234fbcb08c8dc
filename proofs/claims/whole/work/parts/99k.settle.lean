/-! settles -/
def k_rn (K : Nat → Int32) : Nat → (Nat → Int32) × Bool
  | 0 => (K, false)
  | i + 1 => match (k_bs (k_rn K i).1 (k_as (k_rn K i).1) i (k_g (k_rn K i).1)).1 with
    | none => k_rn K i
    | some g => (upd (k_rn K i).1 (18 + k_q (k_rn K i).1 i) (nI g), true)
def k_sr : Nat → (Nat → Int32) → Nat × Bool × (Nat → Int32)
  | 0, K => (0, true, K)
  | f + 1, K => if (k_rn K (k_m K)).2 = true then ((k_sr f (k_rn K (k_m K)).1).1 + 1, (k_sr f (k_rn K (k_m K)).1).2.1, (k_sr f (k_rn K (k_m K)).1).2.2) else (1, false, (k_rn K (k_m K)).1)
theorem k_rn_ok {K : Nat → Int32} (hk : k_ok K) : ∀ i, i ≤ k_m K → k_ok (k_rn K i).1 ∧ k_sa K (k_rn K i).1
  | 0, _ => ⟨hk, k_sa.rf⟩
  | i + 1, hi => by
    obtain ⟨ok, sa⟩ := k_rn_ok hk i (by omega)
    have hb := k_bds hk
    unfold k_rn
    cases e : (k_bs (k_rn K i).1 (k_as (k_rn K i).1) i (k_g (k_rn K i).1)).1 with
    | none => exact ⟨ok, sa⟩
    | some g =>
      have hg := (k_bs_lt _ e).1
      have hq := k_qn ok (i := i) (by rw [(k_sa_n sa).2.2.1]; omega)
      have nn := (k_sa_n sa).1
      exact ⟨k_ask_k ok hq hg, sa.tr (k_sa_u (by omega))⟩
theorem k_sr_ok : ∀ (f : Nat) {K : Nat → Int32}, k_ok K → k_ok (k_sr f K).2.2 ∧ k_sa K (k_sr f K).2.2 ∧ (k_sr f K).1 ≤ f
  | 0, _, hk => ⟨hk, k_sa.rf, Nat.le_refl _⟩
  | f + 1, K, hk => by
    obtain ⟨ok, sa⟩ := k_rn_ok hk (k_m K) (Nat.le_refl _)
    unfold k_sr
    by_cases q : (k_rn K (k_m K)).2 = true
    · rw [if_pos q]
      obtain ⟨a, b, c⟩ := k_sr_ok f ok
      exact ⟨a, sa.tr b, by dsimp only; omega⟩
    · rw [if_neg q]
      exact ⟨ok, sa, by dsimp only; omega⟩
theorem k_kl_sa {K K' A : Nat → Int32} (h : k_sa K K') (hk : k_ok K) {i : Nat} (hi : i < k_m K) : k_kl K' A i = k_kl K A i := by
  unfold k_kl
  rw [show k_fr K' A = k_fr K A from funext fun x => k_sa_fr h x, k_sa_li h hk hi]
theorem k_bs_sa {K K' A : Nat → Int32} (h : k_sa K K') (hk : k_ok K) {i : Nat} (hi : i < k_m K) : ∀ n, k_bs K' A i n = k_bs K A i n
  | 0 => by
    unfold k_bs
    rw [k_kl_sa h hk hi]
  | n + 1 => by
    have hb := k_bds hk
    unfold k_bs
    rw [k_bs_sa h hk hi n, k_kl_sa h hk hi, k_sa_q h (by omega), k_sa_al h]
section ST
variable {K : Nat → Int32} {d : Nat}
/-- how things lie while they settle -/
def c_sl (K : Nat → Int32) (M : ir_M) (Kc : Nat → Int32) (t : ir_M) : Prop := q_st 0 M t ∧ c_rl t 12 K ∧ c_rl t 91 Kc ∧ k_sa K Kc ∧ (∀ j, j < k_m K → ir_I t 117 (3 + j) = k_as Kc j) ∧ ∀ j, j < k_m K → ir_I t 119 j = nI (k_ch K j (k_g K))
theorem c_sl1 {M t : ir_M} {Kc : Nat → Int32} (h : c_sl K M Kc t) {i : Nat} (hi : i < k_m K) : ∃ t', m_X11_likedMore (d + 5) 1 (nI i) t = ir_oI (k_on (k_bs Kc (k_as Kc) i (k_g Kc)).1) t' ∧ c_sl K M Kc t' ∧ ∀ k, ir_I t' 1 k = ir_I t 1 k := by
  obtain ⟨h1, h2, h3, h4, h5, h6⟩ := h
  have gd : ∀ j, j < k_m K → k_gd K (k_as Kc j) := fun j hj => by
    have := k_as_gd h3.2.2.1 (i := j) (by rw [(k_sa_n h4).2.2.1]; exact hj)
    unfold k_gd at this ⊢
    rw [(k_sa_n h4).2.1] at this
    exact this
  obtain ⟨t1, e1, q1, r1⟩ := c_lm (d := d) h2 h5 gd h6 hi
  refine ⟨t1, ?_, ⟨h1.tr (q_st_eq h2.1 q1 (by decide)), c_rl_eq h2 q1 (by decide), c_rl_eq h3 q1 (by decide), h4, r1, fun j hj => by rw [q_I_eq q1 (by decide)]; exact h6 j hj⟩, fun k => q_I_eq q1 (by decide) k⟩
  rw [e1, k_bs_sa h4 h2.2.2.1 hi, (k_sa_n h4).2.1]
theorem c_sl2 {M t : ir_M} {Kc : Nat → Int32} (h : c_sl K M Kc t) {i g : Nat} (hi : i < k_m K) (hg : g < k_g K) (ha : k_al K (k_q K i) (nI g) (nI i) = true) : c_sl K M (upd Kc (18 + k_q Kc i) (nI g)) (ir_sI (ir_sI t 93 (k_q K i) (nI g)) 117 (3 + i) (nI g)) := by
  obtain ⟨h1, h2, h3, h4, h5, h6⟩ := h
  have hb := k_bds h2.2.2.1
  obtain ⟨n1, n2, n3, -, -⟩ := k_sa_n h4
  have hq := k_qn h2.2.2.1 hi
  have qq := k_sa_q h4 (show i < 8 by omega)
  rw [qq]
  obtain ⟨N, eN⟩ : ∃ N, N = ir_sI t 93 (k_q K i) (nI g) := ⟨_, rfl⟩
  rw [← eN]
  have qN : q_eq [93] t N := by rw [eN]; exact q_eq.sI (by decide)
  have qL : q_eq [117] N (ir_sI N 117 (3 + i) (nI g)) := q_eq.sI (by decide)
  have s0 : q_st 0 t (ir_sI N 117 (3 + i) (nI g)) := (q_st_eq h2.1 qN (by decide)).tr (q_st_eq (q_PI_eq qN h2.1) qL (by decide))
  have okc := k_ask_ok h3.2.2.1 (p := k_q K i) (g := g) (by omega) (by omega)
  have cN : c_rl N 91 (upd Kc (18 + k_q K i) (nI g)) := by
    rw [eN]
    exact c_rl_st (S := [93]) h3 (q_eq.sI (by decide)) (by decide) (fun k hk => k_upd_n (by omega)) okc (c_st_ask h3.2.2.1 h3.2.2.2.2 (show k_q K i < k_n Kc by omega))
  refine ⟨h1.tr s0, q_st_c s0 h2, c_rl_eq cN qL (by decide), h4.tr (k_sa_u (by omega)), fun j hj => ?_, fun j hj => ?_⟩
  · have := k_as_u h3.2.2.1 (i := i) (g := g) (by omega) (by omega) (j := j) (by omega)
    rw [qq] at this
    rw [this, q_I_u]
    by_cases q : j = i
    · rw [if_pos (by omega), if_pos q, k_sa_al h4, if_pos ha]
    · rw [if_neg (by omega), if_neg q, eN, q_I_n (by decide)]
      exact h5 j hj
  · rw [q_I_n (by decide), eN, q_I_n (by decide)]
    exact h6 j hj
theorem c_sl3 {M t : ir_M} {Kc : Nat → Int32} (h : c_sl K M Kc t) : ∃ t', m_X11_settleRound (d + 6) 1 t = ir_oI (if (k_rn Kc (k_m Kc)).2 = true then nI 1 else nI 0) t' ∧ c_sl K M (k_rn Kc (k_m Kc)).1 t' ∧ ∀ k, ir_I t' 1 k = ir_I t 1 k := by
  have hk := h.2.1.2.2.1
  have hkc := h.2.2.1.2.2.1
  have hb := k_bds hk
  have em := (k_sa_n h.2.2.2.1).2.2.1
  have L := q_up (σ := ir_M) (V := fun x u => v_X11_settleRound_4 (d + 5) 1 (if (k_rn Kc x).2 = true then nI 1 else nI 0) (nI x) u) (N := k_m Kc) (I := fun x u => c_sl K M (k_rn Kc x).1 u ∧ ∀ k, ir_I u 1 k = ir_I t 1 k) (K := fun u => ir_oI (if (k_rn Kc (k_m Kc)).2 = true then nI 1 else nI 0) u) (by
    rintro x u hx ⟨hs, h1⟩
    obtain ⟨u1, e1, s1, g1⟩ := c_sl1 (d := d) hs (i := x) (by omega)
    have c91 := hs.2.2.1
    have m91 : k_m (k_rn Kc x).1 = k_m K := (k_sa_n hs.2.2.2.1).2.2.1
    have g91 : k_g (k_rn Kc x).1 = k_g K := (k_sa_n hs.2.2.2.1).2.1
    have q91 : k_q (k_rn Kc x).1 x = k_q K x := k_sa_q hs.2.2.2.1 (by omega)
    have hq := k_qn hk (i := x) (by omega)
    have sz : ir_I u 91 0 = nI (k_m K) := by rw [(c_use c91).2.2.2.2.2.1, m91]
    rw [show k_rn Kc (x + 1) = (match (k_bs (k_rn Kc x).1 (k_as (k_rn Kc x).1) x (k_g (k_rn Kc x).1)).1 with | none => k_rn Kc x | some g => (upd (k_rn Kc x).1 (18 + k_q (k_rn Kc x).1 x) (nI g), true)) from rfl]
    cases e : (k_bs (k_rn Kc x).1 (k_as (k_rn Kc x).1) x (k_g (k_rn Kc x).1)).1 with
    | none =>
      rw [e] at e1
      refine ⟨u1, ⟨s1, fun k => (g1 k).trans (h1 k)⟩, ?_⟩
      rw [L_X11_settleRound_4]
      simp (disch := omega) only [q_ckt, q_lt, q_cI, q_cJ, q_cV, q_cP, q_xI, q_xV, q_xP, q_xJ, g_gk, g_ga, g_gw, g_gp, g_gq, g_P, g_J, q_I_s, q_I_n, q_I_k, nI_add, pk_sub, pk_mul, nI_clamp, n_lt0, n_0lt, n_eq0, n_lt, n_le, n_eq, n_m1, n_m2, n_m9, n_12, n_19, n_10, n_01, n_1n1, n_0n1, n_1n0, n_0n0, n_dI, n_m1lt, q_inb, n_nar, n_nar0, n_nar1, n_bool, Bool.false_eq_true, Bool.true_eq_false, if_true, if_false, ↓reduceIte, Nat.reduceAdd, Nat.reduceMul, Nat.reduceSub, Nat.reduceLT, Nat.reduceLeDiff, Nat.reduceEqDiff, Nat.reduceMod, Nat.reduceDiv, q_W hs.2.1.1, q_S hs.2.1.1 (a := 91) (by decide), sz, show x < k_m K by omega, e1, k_on]
    | some g =>
      rw [e] at e1
      obtain ⟨hg, hal⟩ := k_bs_lt _ e
      rw [g91] at hg
      rw [q91, k_sa_al hs.2.2.2.1] at hal
      have s2 := c_sl2 s1 (show x < k_m K by omega) hg hal
      have c1 := s1.2.2.1
      have qx : ir_I u1 92 x = nI (k_q K x) := by
        have := (c_use c1).2.2.2.2.2.2.2.2.2.1 x (by omega)
        rw [q91] at this
        exact this
      refine ⟨_, ⟨s2, fun k => ?_⟩, ?_⟩
      · rw [q_I_n (by decide), q_I_n (by decide)]
        exact (g1 k).trans (h1 k)
      · rw [L_X11_settleRound_4]
        simp (disch := omega) only [q_ckt, q_lt, q_cI, q_cJ, q_cV, q_cP, q_xI, q_xV, q_xP, q_xJ, g_gk, g_ga, g_gw, g_gp, g_gq, g_P, g_J, q_I_s, q_I_n, q_I_k, nI_add, pk_sub, pk_mul, nI_clamp, n_lt0, n_0lt, n_eq0, n_lt, n_le, n_eq, n_m1, n_m2, n_m9, n_12, n_19, n_10, n_01, n_1n1, n_0n1, n_1n0, n_0n0, n_dI, n_m1lt, q_inb, n_nar, n_nar0, n_nar1, n_bool, Bool.false_eq_true, Bool.true_eq_false, if_true, if_false, ↓reduceIte, Nat.reduceAdd, Nat.reduceMul, Nat.reduceSub, Nat.reduceLT, Nat.reduceLeDiff, Nat.reduceEqDiff, Nat.reduceMod, Nat.reduceDiv, q_W hs.2.1.1, q_S hs.2.1.1 (a := 91) (by decide), sz, show x < k_m K by omega, e1, k_on, q_W s1.2.1.1, q_S s1.2.1.1 (a := 91) (by decide), qx, q_F s1.2.1.1]) (by
    rintro u ⟨hs, h1⟩
    have sz : ir_I u 91 0 = nI (k_m K) := by rw [(c_use hs.2.2.1).2.2.2.2.2.1, (k_sa_n hs.2.2.2.1).2.2.1]
    rw [L_X11_settleRound_4]
    cases (k_rn Kc (k_m Kc)).2 <;> simp (disch := omega) only [q_ckt, q_lt, q_cI, q_cJ, q_cV, q_cP, q_xI, q_xV, q_xP, q_xJ, g_gk, g_ga, g_gw, g_gp, g_gq, g_P, g_J, q_I_s, q_I_n, q_I_k, nI_add, pk_sub, pk_mul, nI_clamp, n_lt0, n_0lt, n_eq0, n_lt, n_le, n_eq, n_m1, n_m2, n_m9, n_12, n_19, n_10, n_01, n_1n1, n_0n1, n_1n0, n_0n0, n_dI, n_m1lt, q_inb, n_nar, n_nar0, n_nar1, n_bool, Bool.false_eq_true, Bool.true_eq_false, if_true, if_false, ↓reduceIte, Nat.reduceAdd, Nat.reduceMul, Nat.reduceSub, Nat.reduceLT, Nat.reduceLeDiff, Nat.reduceEqDiff, Nat.reduceMod, Nat.reduceDiv, q_W hs.2.1.1, q_S hs.2.1.1 (a := 91) (by decide), sz, show ¬ k_m Kc < k_m K by omega]) (i := 0) (t := t) (by omega) ⟨h, fun _ => rfl⟩
  obtain ⟨u, ⟨a, b⟩, ee⟩ := L
  exact ⟨u, (E_X11_settleRound (d + 5) 1 t).trans ee, a, b⟩
theorem c_sl_1 {M t : ir_M} {Kc : Nat → Int32} {k : Nat} {v : Int32} (h : c_sl K M Kc t) (hk : 4 ≤ k) : c_sl K M Kc (ir_sI t 1 k v) := by
  obtain ⟨h1, h2, h3, h4, h5, h6⟩ := h
  have s := q_st_1 h2.1 (k := k) (v := v) hk
  have q : q_eq [1] t (ir_sI t 1 k v) := q_eq.sI (by decide)
  exact ⟨h1.tr s, q_st_c s h2, c_rl_st h3 q (by decide) (fun _ _ => rfl) h3.2.2.1.2 (c_st_fr (fun j hj => q.1 _ (by simp only [List.mem_cons, List.not_mem_nil, or_false]; omega)) h3.2.2.2.2), h4, fun j hj => (q_I_n (by decide)).trans (h5 j hj), fun j hj => (q_I_n (by decide)).trans (h6 j hj)⟩
theorem c_sl4 : ∀ (f n : Nat) {M t : ir_M} {Kc : Nat → Int32}, c_sl K M Kc t → ir_I t 1 17 = nI n → ir_I t 1 18 = 0 → n + f = 30 → ∃ t', v_X11_settle_25 (d + 6) 1 t = v_X11_settle_70 (d + 6) 1 t' ∧ c_sl K M (k_sr f Kc).2.2 t' ∧ ir_I t' 1 17 = nI (n + (k_sr f Kc).1) ∧ ir_I t' 1 18 = if (k_sr f Kc).2.1 = true then 0 else 1
  | 0, n, M, t, Kc, h, h17, h18, hn => by
    refine ⟨t, ?_, h, h17, h18⟩
    rw [L_X11_settle_25]
    simp (disch := omega) only [q_ckt, q_lt, q_cI, q_cJ, q_cV, q_cP, q_xI, q_xV, q_xP, q_xJ, g_gk, g_ga, g_gw, g_gp, g_gq, g_P, g_J, q_I_s, q_I_n, q_I_k, nI_add, pk_sub, pk_mul, nI_clamp, n_lt0, n_0lt, n_eq0, n_lt, n_le, n_eq, n_m1, n_m2, n_m9, n_12, n_19, n_10, n_01, n_1n1, n_0n1, n_1n0, n_0n0, n_dI, n_m1lt, q_inb, n_nar, n_nar0, n_nar1, n_bool, Bool.false_eq_true, Bool.true_eq_false, if_true, if_false, ↓reduceIte, Nat.reduceAdd, Nat.reduceMul, Nat.reduceSub, Nat.reduceLT, Nat.reduceLeDiff, Nat.reduceEqDiff, Nat.reduceMod, Nat.reduceDiv, q_W h.2.1.1, h18, h17, show ¬ n < 30 by omega]
  | f + 1, n, M, t, Kc, h, h17, h18, hn => by
    obtain ⟨t1, e1, s1, g1⟩ := c_sl3 (d := d) h
    have p1 := s1.2.1.1
    have z17 : ir_I t1 1 17 = nI n := (g1 17).trans h17
    cases e : (k_rn Kc (k_m Kc)).2
    · rw [e] at e1
      have s2 := c_sl_1 (k := 17) (v := nI (n + 1)) (c_sl_1 (k := 18) (v := nI 1) s1 (by omega)) (by omega)
      have ef : k_sr (f + 1) Kc = (1, false, (k_rn Kc (k_m Kc)).1) := by
        show (if (k_rn Kc (k_m Kc)).2 = true then _ else _) = _
        rw [e, if_neg (by decide)]
      rw [ef]
      refine ⟨_, ?_, s2, q_I_s, ?_⟩
      · rw [L_X11_settle_25]
        simp (disch := omega) only [q_ckt, q_lt, q_cI, q_cJ, q_cV, q_cP, q_xI, q_xV, q_xP, q_xJ, g_gk, g_ga, g_gw, g_gp, g_gq, g_P, g_J, q_I_s, q_I_n, q_I_k, nI_add, pk_sub, pk_mul, nI_clamp, n_lt0, n_0lt, n_eq0, n_lt, n_le, n_eq, n_m1, n_m2, n_m9, n_12, n_19, n_10, n_01, n_1n1, n_0n1, n_1n0, n_0n0, n_dI, n_m1lt, q_inb, n_nar, n_nar0, n_nar1, n_bool, Bool.false_eq_true, Bool.true_eq_false, if_true, if_false, ↓reduceIte, Nat.reduceAdd, Nat.reduceMul, Nat.reduceSub, Nat.reduceLT, Nat.reduceLeDiff, Nat.reduceEqDiff, Nat.reduceMod, Nat.reduceDiv, q_W h.2.1.1, h18, h17, show n < 30 by omega, e1]
        rw [L_X11_settle_54]
        simp (disch := omega) only [q_ckt, q_lt, q_cI, q_cJ, q_cV, q_cP, q_xI, q_xV, q_xP, q_xJ, g_gk, g_ga, g_gw, g_gp, g_gq, g_P, g_J, q_I_s, q_I_n, q_I_k, nI_add, pk_sub, pk_mul, nI_clamp, n_lt0, n_0lt, n_eq0, n_lt, n_le, n_eq, n_m1, n_m2, n_m9, n_12, n_19, n_10, n_01, n_1n1, n_0n1, n_1n0, n_0n0, n_dI, n_m1lt, q_inb, n_nar, n_nar0, n_nar1, n_bool, Bool.false_eq_true, Bool.true_eq_false, if_true, if_false, ↓reduceIte, Nat.reduceAdd, Nat.reduceMul, Nat.reduceSub, Nat.reduceLT, Nat.reduceLeDiff, Nat.reduceEqDiff, Nat.reduceMod, Nat.reduceDiv, q_W p1, show ir_isB (nI 1) = true from rfl, Bool.and_self, z17]
        rw [L_X11_settle_25]
        simp (disch := omega) only [q_ckt, q_lt, q_cI, q_cJ, q_cV, q_cP, q_xI, q_xV, q_xP, q_xJ, g_gk, g_ga, g_gw, g_gp, g_gq, g_P, g_J, q_I_s, q_I_n, q_I_k, nI_add, pk_sub, pk_mul, nI_clamp, n_lt0, n_0lt, n_eq0, n_lt, n_le, n_eq, n_m1, n_m2, n_m9, n_12, n_19, n_10, n_01, n_1n1, n_0n1, n_1n0, n_0n0, n_dI, n_m1lt, q_inb, n_nar, n_nar0, n_nar1, n_bool, Bool.false_eq_true, Bool.true_eq_false, if_true, if_false, ↓reduceIte, Nat.reduceAdd, Nat.reduceMul, Nat.reduceSub, Nat.reduceLT, Nat.reduceLeDiff, Nat.reduceEqDiff, Nat.reduceMod, Nat.reduceDiv, q_W p1]
      · rw [q_I_k (by decide), q_I_s]
        rfl
    · rw [e] at e1
      have s2 := c_sl_1 (k := 17) (v := nI (n + 1)) (c_sl_1 (k := 18) (v := nI 0) s1 (by omega)) (by omega)
      obtain ⟨t', e2, s3, a17, a18⟩ := c_sl4 f (n + 1) s2 q_I_s (by rw [q_I_k (by decide), q_I_s]; rfl) (by omega)
      have ef : k_sr (f + 1) Kc = ((k_sr f (k_rn Kc (k_m Kc)).1).1 + 1, (k_sr f (k_rn Kc (k_m Kc)).1).2.1, (k_sr f (k_rn Kc (k_m Kc)).1).2.2) := by
        show (if (k_rn Kc (k_m Kc)).2 = true then _ else _) = _
        rw [e, if_pos rfl]
      rw [ef]
      refine ⟨t', ?_, s3, by rw [a17]; dsimp only; rw [show n + 1 + (k_sr f (k_rn Kc (k_m Kc)).1).1 = n + ((k_sr f (k_rn Kc (k_m Kc)).1).1 + 1) by omega], a18⟩
      rw [L_X11_settle_25]
      simp (disch := omega) only [q_ckt, q_lt, q_cI, q_cJ, q_cV, q_cP, q_xI, q_xV, q_xP, q_xJ, g_gk, g_ga, g_gw, g_gp, g_gq, g_P, g_J, q_I_s, q_I_n, q_I_k, nI_add, pk_sub, pk_mul, nI_clamp, n_lt0, n_0lt, n_eq0, n_lt, n_le, n_eq, n_m1, n_m2, n_m9, n_12, n_19, n_10, n_01, n_1n1, n_0n1, n_1n0, n_0n0, n_dI, n_m1lt, q_inb, n_nar, n_nar0, n_nar1, n_bool, Bool.false_eq_true, Bool.true_eq_false, if_true, if_false, ↓reduceIte, Nat.reduceAdd, Nat.reduceMul, Nat.reduceSub, Nat.reduceLT, Nat.reduceLeDiff, Nat.reduceEqDiff, Nat.reduceMod, Nat.reduceDiv, q_W h.2.1.1, h18, h17, show n < 30 by omega, e1]
      rw [L_X11_settle_54]
      simp (disch := omega) only [q_ckt, q_lt, q_cI, q_cJ, q_cV, q_cP, q_xI, q_xV, q_xP, q_xJ, g_gk, g_ga, g_gw, g_gp, g_gq, g_P, g_J, q_I_s, q_I_n, q_I_k, nI_add, pk_sub, pk_mul, nI_clamp, n_lt0, n_0lt, n_eq0, n_lt, n_le, n_eq, n_m1, n_m2, n_m9, n_12, n_19, n_10, n_01, n_1n1, n_0n1, n_1n0, n_0n0, n_dI, n_m1lt, q_inb, n_nar, n_nar0, n_nar1, n_bool, Bool.false_eq_true, Bool.true_eq_false, if_true, if_false, ↓reduceIte, Nat.reduceAdd, Nat.reduceMul, Nat.reduceSub, Nat.reduceLT, Nat.reduceLeDiff, Nat.reduceEqDiff, Nat.reduceMod, Nat.reduceDiv, q_W p1, show ir_isB (nI 0) = true from rfl, Bool.and_self, z17]
      exact e2
theorem c_settle {M : ir_M} (h : c_rl M 12 K) : ∃ t, m_X11_settle (d + 7) 1 M = ir_oV t ∧ q_st 0 M t ∧ c_rl t 91 (k_sr 30 K).2.2 ∧ (∀ j, j < k_m K → ir_I t 118 j = k_td (k_sr 30 K).2.2 j) ∧ ir_I t 1 17 = nI (k_sr 30 K).1 ∧ ir_I t 1 18 = if (k_sr 30 K).2.1 = true then 0 else 1 := by
  have hb := k_bds h.2.2.1
  obtain ⟨M1, e1, q1, c1, r1⟩ := c_trial (d := d + 5) h
  obtain ⟨M2, e2, q2, a2, b2⟩ := c_layCh (d := d + 1) c1
  have c2 := c_rl_eq c1 q2 (by decide)
  have s2 : c_sl K M K M2 := ⟨(q_st_eq h.1 q1 (by decide)).tr (q_st_eq c1.1 q2 (by decide)), c2, c_rl_eq r1 q2 (by decide), k_sa.rf, a2, b2⟩
  have s4 := c_sl_1 (k := 18) (v := nI 0) (c_sl_1 (k := 17) (v := nI 0) s2 (by omega)) (by omega)
  obtain ⟨t, e3, s3, a17, a18⟩ := c_sl4 (d := d) 30 0 s4 (by rw [q_I_k (by decide), q_I_s]) q_I_s (by omega)
  obtain ⟨sok, ssa, -⟩ := k_sr_ok 30 h.2.2.1
  obtain ⟨-, -, nm, ny, -⟩ := k_sa_n ssa
  have hbs := k_bds sok
  obtain ⟨t1, e4, q4, r4, f4⟩ := c_fb (d := d + 3) (A := k_as (k_sr 30 K).2.2) s3.2.2.1 hbs.2.2.2.2.1 hbs.2.2.2.2.2 (fun j hj => s3.2.2.2.2.1 j (by omega))
  rw [ny] at e4
  refine ⟨t1, ?_, s3.1.tr (q_st_eq s3.2.1.1 q4 (by decide)), c_rl_eq s3.2.2.1 q4 (by decide), fun j hj => f4 j (by omega), ?_, ?_⟩
  · rw [E_X11_settle]
    simp (disch := omega) only [q_ckt, q_lt, q_cI, q_cJ, q_cV, q_cP, q_xI, q_xV, q_xP, q_xJ, g_gk, g_ga, g_gw, g_gp, g_gq, g_P, g_J, q_I_s, q_I_n, q_I_k, nI_add, pk_sub, pk_mul, nI_clamp, n_lt0, n_0lt, n_eq0, n_lt, n_le, n_eq, n_m1, n_m2, n_m9, n_12, n_19, n_10, n_01, n_1n1, n_0n1, n_1n0, n_0n0, n_dI, n_m1lt, q_inb, n_nar, n_nar0, n_nar1, n_bool, Bool.false_eq_true, Bool.true_eq_false, if_true, if_false, ↓reduceIte, Nat.reduceAdd, Nat.reduceMul, Nat.reduceSub, Nat.reduceLT, Nat.reduceLeDiff, Nat.reduceEqDiff, Nat.reduceMod, Nat.reduceDiv, q_W h.1, q_S h.1 (a := 91) (by decide), e1, q_W c1.1, e2, q_W c2.1, show ir_isB (nI 0) = true from rfl, Bool.and_self]
    refine e3.trans ?_
    rw [L_X11_settle_70]
    simp (disch := omega) only [q_ckt, q_lt, q_cI, q_cJ, q_cV, q_cP, q_xI, q_xV, q_xP, q_xJ, g_gk, g_ga, g_gw, g_gp, g_gq, g_P, g_J, q_I_s, q_I_n, q_I_k, nI_add, pk_sub, pk_mul, nI_clamp, n_lt0, n_0lt, n_eq0, n_lt, n_le, n_eq, n_m1, n_m2, n_m9, n_12, n_19, n_10, n_01, n_1n1, n_0n1, n_1n0, n_0n0, n_dI, n_m1lt, q_inb, n_nar, n_nar0, n_nar1, n_bool, Bool.false_eq_true, Bool.true_eq_false, if_true, if_false, ↓reduceIte, Nat.reduceAdd, Nat.reduceMul, Nat.reduceSub, Nat.reduceLT, Nat.reduceLeDiff, Nat.reduceEqDiff, Nat.reduceMod, Nat.reduceDiv, q_W s3.2.1.1, q_T s3.2.1.1, q_F s3.2.1.1, c_use s3.2.1, e4]
  · rw [q_I_eq q4 (by decide), a17, Nat.zero_add]
  · rw [q_I_eq q4 (by decide), a18]
/-! the reference -/
theorem r_sl3 {M : ir_M} {Kc : Nat → Int32} {w l2 : Int32} (h : r_rl M Kc) : ∃ M', v_X12_settles_66 (d + 8) 412 w l2 (nI 0) (nI 0) M = v_X12_settles_51 (d + 8) 412 w (l2 + nI 1) (if (k_rn Kc (k_m Kc)).2 = true then nI 1 else nI 0) M' ∧ q_eq [413, 418, 419, 420] M M' ∧ r_rl M' (k_rn Kc (k_m Kc)).1 := by
  have hb := k_bds h.2.1
  have L := q_up (σ := ir_M) (V := fun x u => v_X12_settles_66 (d + 8) 412 w l2 (if (k_rn Kc x).2 = true then nI 1 else nI 0) (nI x) u) (N := k_m Kc) (I := fun x u => q_eq [413, 418, 419, 420] M u ∧ r_rl u (k_rn Kc x).1) (K := fun u => v_X12_settles_51 (d + 8) 412 w (l2 + nI 1) (if (k_rn Kc (k_m Kc)).2 = true then nI 1 else nI 0) u) (by
    rintro x u hx ⟨hq, hr⟩
    obtain ⟨okx, sax⟩ := k_rn_ok h.2.1 x (by omega)
    obtain ⟨n1, n2, n3, -, -⟩ := k_sa_n sax
    have qd := r_qd (d := d + 7) hr
    rw [n3] at qd
    have wh := r_wh (d := d + 7) hr (i := x) (by omega)
    obtain ⟨u1, e1, q1⟩ := r_bfr (d := d) hr (i := x) (by omega)
    have r1 := r_rl_eq hr q1 (by decide)
    have wh1 := r_wh (d := d + 7) r1 (i := x) (by omega)
    have hqx := k_qn okx (i := x) (by omega)
    rw [show k_rn Kc (x + 1) = (match (k_bs (k_rn Kc x).1 (k_as (k_rn Kc x).1) x (k_g (k_rn Kc x).1)).1 with | none => k_rn Kc x | some g => (upd (k_rn Kc x).1 (18 + k_q (k_rn Kc x).1 x) (nI g), true)) from rfl]
    cases e : (k_bs (k_rn Kc x).1 (k_as (k_rn Kc x).1) x (k_g (k_rn Kc x).1)).1 with
    | none =>
      rw [e] at e1
      refine ⟨u1, ⟨hq.tr (q1.sub (by decide)), r1⟩, ?_⟩
      rw [L_X12_settles_66]
      simp (disch := omega) only [q_ckt, q_lt, q_cI, q_cJ, q_cV, q_cP, q_xI, q_xV, q_xP, q_xJ, g_gk, g_ga, g_gw, g_gp, g_gq, g_P, g_J, q_I_s, q_I_n, q_I_k, nI_add, pk_sub, pk_mul, nI_clamp, n_lt0, n_0lt, n_eq0, n_lt, n_le, n_eq, n_m1, n_m2, n_m9, n_12, n_19, n_10, n_01, n_1n1, n_0n1, n_1n0, n_0n0, n_dI, n_m1lt, q_inb, n_nar, n_nar0, n_nar1, n_bool, Bool.false_eq_true, Bool.true_eq_false, if_true, if_false, ↓reduceIte, Nat.reduceAdd, Nat.reduceMul, Nat.reduceSub, Nat.reduceLT, Nat.reduceLeDiff, Nat.reduceEqDiff, Nat.reduceMod, Nat.reduceDiv, q_R hr.1, qd, hx, wh, e1, k_on]
    | some g =>
      rw [e] at e1
      have hg := (k_bs_lt _ e).1
      refine ⟨ir_sI u1 413 (18 + k_q (k_rn Kc x).1 x) (nI g), ⟨(hq.tr (q1.sub (by decide))).tr (q_eq.sI (by decide)), r1.1, k_ask_k okx hqx hg, fun k => by rw [q_I_u, r1.2.2]; rfl⟩, ?_⟩
      rw [L_X12_settles_66]
      simp (disch := omega) only [q_ckt, q_lt, q_cI, q_cJ, q_cV, q_cP, q_xI, q_xV, q_xP, q_xJ, g_gk, g_ga, g_gw, g_gp, g_gq, g_P, g_J, q_I_s, q_I_n, q_I_k, nI_add, pk_sub, pk_mul, nI_clamp, n_lt0, n_0lt, n_eq0, n_lt, n_le, n_eq, n_m1, n_m2, n_m9, n_12, n_19, n_10, n_01, n_1n1, n_0n1, n_1n0, n_0n0, n_dI, n_m1lt, q_inb, n_nar, n_nar0, n_nar1, n_bool, Bool.false_eq_true, Bool.true_eq_false, if_true, if_false, ↓reduceIte, Nat.reduceAdd, Nat.reduceMul, Nat.reduceSub, Nat.reduceLT, Nat.reduceLeDiff, Nat.reduceEqDiff, Nat.reduceMod, Nat.reduceDiv, q_R hr.1, qd, hx, wh, e1, k_on, q_R r1.1, wh1]) (by
    rintro u ⟨hq, hr⟩
    obtain ⟨okx, sax⟩ := k_rn_ok h.2.1 (k_m Kc) (Nat.le_refl _)
    have qd := r_qd (d := d + 7) hr
    rw [(k_sa_n sax).2.2.1] at qd
    rw [L_X12_settles_66]
    simp (disch := omega) only [q_ckt, q_lt, q_cI, q_cJ, q_cV, q_cP, q_xI, q_xV, q_xP, q_xJ, g_gk, g_ga, g_gw, g_gp, g_gq, g_P, g_J, q_I_s, q_I_n, q_I_k, nI_add, pk_sub, pk_mul, nI_clamp, n_lt0, n_0lt, n_eq0, n_lt, n_le, n_eq, n_m1, n_m2, n_m9, n_12, n_19, n_10, n_01, n_1n1, n_0n1, n_1n0, n_0n0, n_dI, n_m1lt, q_inb, n_nar, n_nar0, n_nar1, n_bool, Bool.false_eq_true, Bool.true_eq_false, if_true, if_false, ↓reduceIte, Nat.reduceAdd, Nat.reduceMul, Nat.reduceSub, Nat.reduceLT, Nat.reduceLeDiff, Nat.reduceEqDiff, Nat.reduceMod, Nat.reduceDiv, q_R hr.1, qd, Nat.lt_irrefl]) (i := 0) (t := M) (by omega) ⟨q_eq.rf _ _, h⟩
  obtain ⟨u, ⟨a, b⟩, ee⟩ := L
  exact ⟨u, ee, a, b⟩
theorem r_sl4 {w : Int32} : ∀ (f n : Nat) {M : ir_M} {Kc : Nat → Int32}, r_rl M Kc → n + f = 30 → ∃ M', v_X12_settles_51 (d + 8) 412 w (nI n) (nI 1) M = v_X12_settles_126 (d + 8) 412 w (nI (n + (k_sr f Kc).1)) (if (k_sr f Kc).2.1 = true then nI 1 else nI 0) M' ∧ q_eq [413, 418, 419, 420] M M' ∧ r_rl M' (k_sr f Kc).2.2
  | 0, n, M, Kc, h, hn => by
    refine ⟨M, ?_, q_eq.rf _ _, h⟩
    rw [L_X12_settles_51]
    simp (disch := omega) only [q_ckt, q_lt, q_cI, q_cJ, q_cV, q_cP, q_xI, q_xV, q_xP, q_xJ, g_gk, g_ga, g_gw, g_gp, g_gq, g_P, g_J, q_I_s, q_I_n, q_I_k, nI_add, pk_sub, pk_mul, nI_clamp, n_lt0, n_0lt, n_eq0, n_lt, n_le, n_eq, n_m1, n_m2, n_m9, n_12, n_19, n_10, n_01, n_1n1, n_0n1, n_1n0, n_0n0, n_dI, n_m1lt, q_inb, n_nar, n_nar0, n_nar1, n_bool, Bool.false_eq_true, Bool.true_eq_false, if_true, if_false, ↓reduceIte, Nat.reduceAdd, Nat.reduceMul, Nat.reduceSub, Nat.reduceLT, Nat.reduceLeDiff, Nat.reduceEqDiff, Nat.reduceMod, Nat.reduceDiv, show ¬ n < 30 by omega, k_sr, Nat.add_zero]
  | f + 1, n, M, Kc, h, hn => by
    obtain ⟨M1, e1, q1, r1⟩ := r_sl3 (d := d) (w := w) (l2 := nI n) h
    cases e : (k_rn Kc (k_m Kc)).2
    · rw [e] at e1
      have ef : k_sr (f + 1) Kc = (1, false, (k_rn Kc (k_m Kc)).1) := by
        show (if (k_rn Kc (k_m Kc)).2 = true then _ else _) = _
        rw [e, if_neg (by decide)]
      rw [ef]
      refine ⟨M1, ?_, q1, r1⟩
      rw [L_X12_settles_51]
      simp (disch := omega) only [q_ckt, q_lt, q_cI, q_cJ, q_cV, q_cP, q_xI, q_xV, q_xP, q_xJ, g_gk, g_ga, g_gw, g_gp, g_gq, g_P, g_J, q_I_s, q_I_n, q_I_k, nI_add, pk_sub, pk_mul, nI_clamp, n_lt0, n_0lt, n_eq0, n_lt, n_le, n_eq, n_m1, n_m2, n_m9, n_12, n_19, n_10, n_01, n_1n1, n_0n1, n_1n0, n_0n0, n_dI, n_m1lt, q_inb, n_nar, n_nar0, n_nar1, n_bool, Bool.false_eq_true, Bool.true_eq_false, if_true, if_false, ↓reduceIte, Nat.reduceAdd, Nat.reduceMul, Nat.reduceSub, Nat.reduceLT, Nat.reduceLeDiff, Nat.reduceEqDiff, Nat.reduceMod, Nat.reduceDiv, show n < 30 by omega, e1]
      rw [L_X12_settles_51]
      simp (disch := omega) only [q_ckt, q_lt, q_cI, q_cJ, q_cV, q_cP, q_xI, q_xV, q_xP, q_xJ, g_gk, g_ga, g_gw, g_gp, g_gq, g_P, g_J, q_I_s, q_I_n, q_I_k, nI_add, pk_sub, pk_mul, nI_clamp, n_lt0, n_0lt, n_eq0, n_lt, n_le, n_eq, n_m1, n_m2, n_m9, n_12, n_19, n_10, n_01, n_1n1, n_0n1, n_1n0, n_0n0, n_dI, n_m1lt, q_inb, n_nar, n_nar0, n_nar1, n_bool, Bool.false_eq_true, Bool.true_eq_false, if_true, if_false, ↓reduceIte, Nat.reduceAdd, Nat.reduceMul, Nat.reduceSub, Nat.reduceLT, Nat.reduceLeDiff, Nat.reduceEqDiff, Nat.reduceMod, Nat.reduceDiv]
    · rw [e] at e1
      obtain ⟨M2, e2, q2, r2⟩ := r_sl4 (w := w) f (n + 1) r1 (by omega)
      have ef : k_sr (f + 1) Kc = ((k_sr f (k_rn Kc (k_m Kc)).1).1 + 1, (k_sr f (k_rn Kc (k_m Kc)).1).2.1, (k_sr f (k_rn Kc (k_m Kc)).1).2.2) := by
        show (if (k_rn Kc (k_m Kc)).2 = true then _ else _) = _
        rw [e, if_pos rfl]
      rw [ef]
      refine ⟨M2, ?_, q1.tr q2, r2⟩
      rw [L_X12_settles_51]
      simp (disch := omega) only [q_ckt, q_lt, q_cI, q_cJ, q_cV, q_cP, q_xI, q_xV, q_xP, q_xJ, g_gk, g_ga, g_gw, g_gp, g_gq, g_P, g_J, q_I_s, q_I_n, q_I_k, nI_add, pk_sub, pk_mul, nI_clamp, n_lt0, n_0lt, n_eq0, n_lt, n_le, n_eq, n_m1, n_m2, n_m9, n_12, n_19, n_10, n_01, n_1n1, n_0n1, n_1n0, n_0n0, n_dI, n_m1lt, q_inb, n_nar, n_nar0, n_nar1, n_bool, Bool.false_eq_true, Bool.true_eq_false, if_true, if_false, ↓reduceIte, Nat.reduceAdd, Nat.reduceMul, Nat.reduceSub, Nat.reduceLT, Nat.reduceLeDiff, Nat.reduceEqDiff, Nat.reduceMod, Nat.reduceDiv, show n < 30 by omega, e1]
      rw [e2, show n + 1 + (k_sr f (k_rn Kc (k_m Kc)).1).1 = n + ((k_sr f (k_rn Kc (k_m Kc)).1).1 + 1) by omega]
end ST
