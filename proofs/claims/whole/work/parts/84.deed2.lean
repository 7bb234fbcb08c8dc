/-! ask, ring, leave, join, move -/
theorem k_put_cg {K K' : Nat → Int32} (h : ∀ k, ¬ (9 ≤ k ∧ k < 53) → K' k = K k) (i : Nat) : k_put K' (k_un K' i) = k_put K (k_un K i) := funext fun k => by
  unfold k_put
  by_cases q : 9 ≤ k ∧ k < 53
  · rw [if_pos q, if_pos q]
    exact h _ (by omega)
  · rw [if_neg q, if_neg q]
    exact h k q
theorem k_wf_st {K K' : Nat → Int32} (hw : k_wf K) (h : ∀ k, ¬ (9 ≤ k ∧ k < 53) → K' k = K k) (hs : k_okS K') : k_wf K' := by
  obtain ⟨h1, ⟨n1, n2, n3⟩, ⟨a1, a2, a3⟩, r, hr, hr2⟩ := hw
  have en : k_n K' = k_n K := by unfold k_n; rw [h 2 (by omega)]
  have ea : k_na K' = k_na K := by unfold k_na; rw [h 6 (by omega)]
  have ed : k_nd K' = k_nd K := by unfold k_nd; rw [h 8 (by omega)]
  refine ⟨⟨k_okT_cg (fun k hk _ => h k (by omega)) (fun k hk => h k (by omega)) h1.1, hs⟩, ⟨by rw [ed, h 8 (by omega)]; exact n1, by rw [ed]; exact n2, fun i hi => ?_⟩, ⟨by rw [ea, h 6 (by omega)]; exact a1, by rw [ea]; exact a2, fun k hk => ?_⟩, r, hr, by rw [h 4 (by omega)]; exact hr2.1, fun k h1 h2 => by rw [h k (by omega)]; exact hr2.2.1 k h1 h2, fun k h1 => by rw [h k (by omega)]; exact hr2.2.2 k h1⟩
  · rw [ed] at hi
    rw [k_put_cg h]
    exact n3 i hi
  · rw [ea] at hk
    rw [en, h _ (by omega), h _ (by omega)]
    exact a3 k hk
theorem c_sc_st {M M' : ir_M} {K K' : Nat → Int32} (hw : k_wf K) (hc : c_sc M 3 K) (h : ∀ k, ¬ (9 ≤ k ∧ k < 53) → K' k = K k) (hf : ∀ a, 3 ≤ a → a ≤ 90 → a ≠ 9 → ¬ (12 ≤ a ∧ a ≤ 17) → M'.1 a = M.1 a) (hs : c_st M' 12 K') : c_sc M' 3 K' := by
  obtain ⟨h1, h2, h3, h4, e, he, h5, h6, h7⟩ := hc
  have hb := k_bds hw.1
  have en : k_n K' = k_n K := by unfold k_n; rw [h 2 (by omega)]
  have ed : k_nd K' = k_nd K := by unfold k_nd; rw [h 8 (by omega)]
  refine ⟨c_tdT_cg (by omega) (by omega) (fun k hk _ => h k (by omega)) (fun k h1 h2 => h k (by omega)) (fun k hk => h k (by omega)) (c_tdT_fr (fun j hj _ _ => hf _ (by omega) (by omega) (by omega) (by omega)) h1), fun p hp => ?_, hs, ?_, e, he, ?_, fun i hi => ?_, fun x hx => ?_⟩
  · rw [en] at hp
    obtain ⟨y, y1, y2, y3⟩ := h2 p hp
    refine ⟨y, y1, (congrFun (hf _ (by omega) (by omega) (by omega) (by omega)) p).trans y2, fun q hq => ?_⟩
    rw [y3 q hq, k_ap_cg hw.2.2.1.2.1 (h 6 (by omega)) (fun k h1 h2 => h k (by omega))]
  · rw [h 8 (by omega)]
    exact (congrFun (hf 3 (by omega) (by omega) (by omega) (by omega)) 2).trans h4
  · exact (congrFun (hf 3 (by omega) (by omega) (by omega) (by omega)) 3).trans h5
  · rw [ed] at hi
    rw [k_put_cg h]
    have := Nat.mod_lt (e + i) (show 0 < 12 by decide)
    exact c_st_fr (fun j hj => hf _ (by omega) (by omega) (by omega) (by omega)) (h6 i hi)
  · rw [show ir_I M' (3 + 16 + 6 * x) 2 = ir_I M (3 + 16 + 6 * x) 2 from congrFun (hf _ (by omega) (by omega) (by omega) (by omega)) 2]
    exact h7 x hx
theorem c_sc_rl {M : ir_M} {K : Nat → Int32} (hp : q_PI M) (hk : k_ok K) (h : c_sc M 3 K) : c_rl M 12 K := ⟨hp, by decide, hk, h.1, h.2.2.1⟩
theorem k_pf_cg {f g : Nat → Nat} {p : Nat} : ∀ (m i : Nat), (∀ x, i ≤ x → x < i + m → f x = g x) → k_pf f p m i = k_pf g p m i
  | 0, _, _ => rfl
  | m + 1, i, h => by
    unfold k_pf
    rw [h i (Nat.le_refl _) (by omega), k_pf_cg m (i + 1) (fun x h1 h2 => h x (by omega) (by omega))]
theorem k_pl_cg {K K' : Nat → Int32} {p : Nat} (hm : k_m K ≤ 8) (h : ∀ k, 9 ≤ k → k < 18 → K' k = K k) : k_pl K' p = k_pl K p := by
  have em : k_m K' = k_m K := by unfold k_m; rw [h 9 (by omega) (by omega)]
  unfold k_pl
  rw [em]
  exact k_pf_cg _ _ (fun x _ h2 => by unfold k_q; rw [h _ (by omega) (by omega)])
theorem k_upd_n {K : Nat → Int32} {k j : Nat} {v : Int32} (h : j ≠ k) : upd K k v j = K j := if_neg h
theorem k_upd_s {K : Nat → Int32} {k : Nat} {v : Int32} : upd K k v k = v := if_pos rfl
/-- another asking -/
theorem k_ask_ok {K : Nat → Int32} (hk : k_ok K) {p g : Nat} (hp : p < k_n K) (hg : g < k_g K) : k_okS (upd K (18 + p) (nI g)) := by
  have hb := k_bds hk
  obtain ⟨K', eK⟩ : ∃ K', K' = upd K (18 + p) (nI g) := ⟨_, rfl⟩
  rw [← eK]
  have h : ∀ k, k ≠ 18 + p → K' k = K k := fun k hk => by rw [eK]; exact if_neg hk
  have hs : K' (18 + p) = nI g := by rw [eK]; exact if_pos rfl
  have eg : k_g K' = k_g K := by unfold k_g; rw [h 1 (by omega)]
  have en : k_n K' = k_n K := by unfold k_n; rw [h 2 (by omega)]
  have ew : k_w K' = k_w K := by unfold k_w; rw [h 44 (by omega)]
  have em : k_m K' = k_m K := by unfold k_m; rw [h 9 (by omega)]
  obtain ⟨s1, s2, s3, s4, s5, s6, s7, s8, s9, s10, s11⟩ := hk.2
  have eq : ∀ i, i < k_m K → k_q K' i = k_q K i := fun i hi => by unfold k_q; rw [h _ (by omega)]
  have ea : ∀ x, x < k_n K → k_a K' x = if x = p then g else k_a K x := fun x hx => by
    unfold k_a
    by_cases q : x = p
    · rw [q, hs, nI_clamp (by omega), if_pos rfl]
    · rw [h _ (by omega), if_neg q]
  unfold k_okS
  rw [en, ew, em, eg, h 9 (by omega), h 43 (by omega), h 44 (by omega)]
  refine ⟨s1, s2, fun i hi => ?_, fun i hi => ?_, fun i j hi hj e => ?_, fun x hx => ?_, fun x hx => ?_, s8, s9, s10, fun i hi => ?_⟩
  · rw [eq i hi, h _ (by omega)]
    exact s3 i hi
  · rw [eq i hi]
    exact s4 i hi
  · rw [eq i hi, eq j hj] at e
    exact s5 i j hi hj e
  · rw [ea x hx]
    by_cases q : x = p
    · rw [if_pos q, q, hs]
    · rw [if_neg q, h _ (by omega)]
      exact s6 x hx
  · rw [ea x hx]
    split
    · exact hg
    · exact s7 x hx
  · rw [h _ (by omega)]
    unfold k_gd
    rw [eg]
    exact s11 i hi
theorem c_st_ask {M : ir_M} {s : Nat} {K : Nat → Int32} (hk : k_ok K) (hc : c_st M s K) {p : Nat} {v : Int32} (hp : p < k_n K) : c_st (ir_sI M (s + 2) p v) s (upd K (18 + p) v) := by
  have hb := k_bds hk
  have h : ∀ k, k ≠ 18 + p → upd K (18 + p) v k = K k := fun k hk => if_neg hk
  have en : k_n (upd K (18 + p) v) = k_n K := by unfold k_n; rw [h 2 (by omega)]
  have ew : k_w (upd K (18 + p) v) = k_w K := by unfold k_w; rw [h 44 (by omega)]
  have em : k_m (upd K (18 + p) v) = k_m K := by unfold k_m; rw [h 9 (by omega)]
  obtain ⟨b0, b1, b2, b3, b4, b5, b6, b7, b8⟩ := hc
  unfold c_st
  rw [en, ew, em, h 9 (by omega), h 42 (by omega), h 43 (by omega), h 44 (by omega)]
  refine ⟨?_, ?_, ?_, ?_, fun i hi => ?_, fun x hx => ?_, fun x hx => ?_, fun x hx => ?_, fun i hi => ?_⟩
  · rw [q_I_n (by omega)]; exact b0
  · rw [q_I_n (by omega)]; exact b1
  · rw [q_I_n (by omega)]; exact b2
  · rw [q_I_n (by omega)]; exact b3
  · rw [q_I_n (by omega), h _ (by omega)]; exact b4 i hi
  · rw [q_I_u]
    by_cases q : x = p
    · rw [if_pos q, q]; exact k_upd_s.symm
    · rw [if_neg q, h _ (by omega)]; exact b5 x hx
  · rw [q_I_n (by omega), h _ (by omega)]; exact b6 x hx
  · rw [q_I_n (by omega), h _ (by omega)]; exact b7 x hx
  · rw [q_I_n (by omega), h _ (by omega)]; exact b8 i hi
section DD
variable {M : ir_M} {K : Nat → Int32} {d s : Nat}
theorem c_st_shift {M' : ir_M} (h : c_rl M s K) {j i : Nat} (hj : j < k_m K) (hi : i < k_m K) (he : q_eq [s + 1] M M') (hx : ∀ x, x < 8 → ir_I M' (s + 1) x = ir_I M (s + 1) (k_sh j i x)) : c_st M' s (k_mov K j i) := by
  have hb := k_bds h.2.2.1
  have hu := c_use h
  obtain ⟨ok, em, eq⟩ := k_mov_ok h.2.2.1 hj hi
  have fr : ∀ a, a ≠ s + 1 → M'.1 a = M.1 a := fun a ha => he.1 a (fun q => ha (List.mem_singleton.mp q))
  refine c_st_q h.2.2.2.2 (by omega) (by omega) (fun j h1 h2 => fr _ (by omega)) (fun k _ hk => k_mov_o h.2.2.1 hj hi hk) ?_ (fun j h1 h2 => congrFun (fr s (by omega)) j) (fun x hx' => ?_)
  · rw [k_mov_9 h.2.2.1 hj]
    exact (congrFun (fr s (by omega)) 0).trans hu.2.2.2.2.2.1
  · rw [em] at hx'
    rw [hx x (by omega), k_mov_q h.2.2.1 hj hi hx']
    exact hu.2.2.2.2.2.2.2.2.2.1 _ (k_sh_lt hj hi hx')
theorem c_takeOut (h : c_rl M s K) {i : Nat} (hi : i < k_m K) : ∃ M', m_X8_takeOut (d + 2) s (nI i) M = ir_oV M' ∧ q_eq [s, s + 1] M M' ∧ c_st M' s (k_out K i) := by
  have hb := k_bds h.2.2.1
  have hu := c_use h
  obtain ⟨M1, e1, q1, f1⟩ := c_shift (d := d) h hi (show k_m K - 1 < k_m K by omega)
  have hp1 := q_PI_eq q1 h.1
  obtain ⟨ok, em, eq⟩ := k_out_ok h.2.2.1 hi
  have fr : ∀ a, a ≠ s + 1 → M1.1 a = M.1 a := fun a ha => q1.1 a (fun q => ha (List.mem_singleton.mp q))
  have e0 : ir_I M1 s 0 = nI (k_m K) := (congrFun (fr s (by omega)) 0).trans hu.2.2.2.2.2.1
  refine ⟨ir_sI M1 s 0 (nI (k_m K - 1)), ?_, (q1.sub (fun a ha => by rw [List.mem_singleton.mp ha]; simp)).tr (q_eq.sI (by simp)), ?_⟩
  · rw [E_X8_takeOut]
    simp (disch := omega) only [q_ckt, q_lt, q_cI, q_cJ, q_cV, q_cP, q_xI, q_xV, q_xP, q_xJ, g_gk, g_ga, g_gw, g_gp, g_gq, g_P, g_J, q_I_s, q_I_n, q_I_k, nI_add, pk_sub, pk_mul, nI_clamp, n_lt0, n_0lt, n_eq0, n_lt, n_le, n_eq, n_m1, n_m2, n_m9, n_12, n_19, n_10, n_01, n_1n1, n_0n1, n_1n0, n_0n0, n_dI, n_m1lt, q_inb, n_nar, n_nar0, n_nar1, n_bool, Bool.false_eq_true, Bool.true_eq_false, if_true, if_false, ↓reduceIte, Nat.reduceAdd, Nat.reduceMul, Nat.reduceSub, Nat.reduceLT, Nat.reduceLeDiff, Nat.reduceEqDiff, Nat.reduceMod, Nat.reduceDiv, q_S h.1 h.2.1, hu, e1, q_S hp1 h.2.1, e0]
  · refine c_st_q h.2.2.2.2 (by omega) (by omega) (fun j h1 h2 => ?_) (fun k _ hk => k_out_o h.2.2.1 hi hk) q_I_s (fun j h1 h2 => ?_) (fun x hx' => ?_)
    · rw [show (ir_sI M1 s 0 (nI (k_m K - 1))).1 (s + j) = M1.1 (s + j) from if_neg (by omega)]
      exact fr _ (by omega)
    · rw [q_I_k (by omega)]
      exact congrFun (fr s (by omega)) j
    · rw [em] at hx'
      have es : k_sh i (k_m K - 1) x = if x < i then x else x + 1 := by
        unfold k_sh
        by_cases q : x < i
        · rw [if_pos q, if_neg (show ¬ x = k_m K - 1 by omega), if_neg (by omega), if_neg (by omega)]
        · rw [if_neg q, if_neg (show ¬ x = k_m K - 1 by omega), if_pos (by omega)]
      rw [q_I_n (by omega), f1 x (by omega), k_out_q h.2.2.1 hi hx', es]
      exact hu.2.2.2.2.2.2.2.2.2.1 _ (by split <;> omega)
/-- at most so many differ -/
theorem k_pig : ∀ (n m : Nat) (f : Nat → Nat), (∀ i, i < m → f i < n) → (∀ i j, i < m → j < m → f i = f j → i = j) → m ≤ n
  | 0, m, f, h, _ => by
    rcases Nat.eq_zero_or_pos m with q | q
    · omega
    · have := h 0 q; omega
  | n + 1, m, f, h, hi => by
    by_cases q : ∃ i, i < m ∧ f i = n
    · obtain ⟨i, him, hin⟩ := q
      have := k_pig n (m - 1) (fun x => if x = i then f (m - 1) else f x) (fun x hx => by
        have h1 := h (m - 1) (by omega)
        have h2 := h x (by omega)
        split
        · next e =>
          have : f (m - 1) ≠ n := fun w => by have := hi (m - 1) i (by omega) him (by omega); omega
          omega
        · next e =>
          have : f x ≠ n := fun w => by have := hi x i (by omega) him (by omega); omega
          omega) (fun x y hx hy e => by
        split at e
        · split at e
          · omega
          · have := hi (m - 1) y (by omega) (by omega) e; omega
        · split at e
          · have := hi x (m - 1) (by omega) (by omega) e; omega
          · exact hi x y (by omega) (by omega) e)
      omega
    · have := k_pig n m f (fun i him => by
        have h1 := h i him
        have : f i ≠ n := fun w => q ⟨i, him, w⟩
        omega) hi
      omega
theorem k_room (h : k_ok K) {p : Nat} (hp : p < k_n K) (hpl : k_pl K p = none) : k_m K < k_n K := by
  have := k_pig (k_n K) (k_m K + 1) (fun i => if i = k_m K then p else k_q K i) (fun i hi => by
    split
    · exact hp
    · exact k_qn h (by omega)) (fun i j hi hj e => by
    split at e
    · split at e
      · omega
      · exact absurd e.symm (k_pl_none hpl (by omega))
    · split at e
      · exact absurd e (k_pl_none hpl (by omega))
      · exact h.2.2.2.2.2.1 i j (by omega) (by omega) e)
  omega
theorem k_join_o {p k : Nat} (hk : ¬ (9 ≤ k ∧ k < 18)) (hm : k_m K ≤ 7) : k_inn K p (k_m K) k = K k := by
  unfold k_inn
  rw [if_neg (by omega), if_neg (by omega), if_neg (by omega)]
theorem k_join_q (h : k_ok K) {p x : Nat} (hx : x < k_m K + 1) : k_inn K p (k_m K) (10 + x) = nI (if x = k_m K then p else k_q K x) := by
  unfold k_inn
  rw [if_neg (by omega)]
  by_cases q : x = k_m K
  · rw [if_pos (by omega), if_pos q]
  · rw [if_neg (by omega), if_neg (by omega), if_neg q]
    exact (k_use h).2.2.2.2.2.1 x (by omega)
theorem k_join_ok (h : k_ok K) {p : Nat} (hp : p < k_n K) (hpl : k_pl K p = none) : k_okS (k_inn K p (k_m K)) ∧ k_m (k_inn K p (k_m K)) = k_m K + 1 := by
  have hr := k_room h hp hpl
  have hb := k_bds h
  obtain ⟨a, b, -⟩ := k_okS_q (K' := k_inn K p (k_m K)) (m := k_m K + 1) (Q := fun x => if x = k_m K then p else k_q K x) h (fun k _ hk => k_join_o hk (by omega)) rfl (by omega) (fun x hx => k_join_q h hx) (fun x hx => by
    split
    · exact hp
    · exact k_qn h (by omega)) (fun i j hi hj e => by
    split at e
    · split at e
      · omega
      · exact absurd e.symm (k_pl_none hpl (by omega))
    · split at e
      · exact absurd e (k_pl_none hpl (by omega))
      · exact h.2.2.2.2.2.1 i j (by omega) (by omega) e)
  exact ⟨a, b⟩
theorem c_putLast (h : c_rl M s K) {p : Nat} (hp : p < k_n K) (hm : k_m K < k_n K) (em : k_m (k_inn K p (k_m K)) = k_m K + 1) : ∃ M', m_X8_putLast (d + 1) s (nI p) M = ir_oI (nI (k_m K)) M' ∧ q_eq [s, s + 1] M M' ∧ c_st M' s (k_inn K p (k_m K)) := by
  have hb := k_bds h.2.2.1
  have hu := c_use h
  refine ⟨ir_sI (ir_sI M (s + 1) (k_m K) (nI p)) s 0 (nI (k_m K + 1)), ?_, (q_eq.sI (by simp)).tr (q_eq.sI (by simp)), ?_⟩
  · rw [E_X8_putLast]
    simp (disch := omega) only [q_ckt, q_lt, q_cI, q_cJ, q_cV, q_cP, q_xI, q_xV, q_xP, q_xJ, g_gk, g_ga, g_gw, g_gp, g_gq, g_P, g_J, q_I_s, q_I_n, q_I_k, nI_add, pk_sub, pk_mul, nI_clamp, n_lt0, n_0lt, n_eq0, n_lt, n_le, n_eq, n_m1, n_m2, n_m9, n_12, n_19, n_10, n_01, n_1n1, n_0n1, n_1n0, n_0n0, n_dI, n_m1lt, q_inb, n_nar, n_nar0, n_nar1, n_bool, Bool.false_eq_true, Bool.true_eq_false, if_true, if_false, ↓reduceIte, Nat.reduceAdd, Nat.reduceMul, Nat.reduceSub, Nat.reduceLT, Nat.reduceLeDiff, Nat.reduceEqDiff, Nat.reduceMod, Nat.reduceDiv, q_S h.1 h.2.1, hu, show k_m K < 8 by omega, Nat.add_sub_cancel]
  · refine c_st_q h.2.2.2.2 (by omega) (by omega) (fun j h1 h2 => ?_) (fun k _ hk => k_join_o hk (by omega)) q_I_s (fun j h1 h2 => ?_) (fun x hx' => ?_)
    · exact (if_neg (by omega)).trans (if_neg (by omega))
    · rw [q_I_k (by omega), q_I_n (by omega)]
    · rw [em] at hx'
      rw [q_I_n (by omega), q_I_u, k_join_q h.2.2.1 hx']
      by_cases q : x = k_m K
      · rw [if_pos q, if_pos q]
      · rw [if_neg q, if_neg q]
        exact hu.2.2.2.2.2.2.2.2.2.1 x (by omega)
end DD
