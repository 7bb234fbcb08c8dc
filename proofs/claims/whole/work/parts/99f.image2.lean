/-! image, restore -/
theorem q_97 {M : ir_M} {i : Nat} (h : q_PI M) (hi : i < 3) : ir_P M 97 i = 140 + 88 * i := by
  have : i = 0 ∨ i = 1 ∨ i = 2 := by omega
  rcases this with rfl | rfl | rfl
  · exact q_p97_0 h
  · exact q_p97_1 h
  · exact q_p97_2 h
theorem q_b98 : ir_bst (ir_kd 98) (nI 1) = nI 1 := by decide +kernel
theorem q_b416 : ir_bst (ir_kd 416) (nI 1) = nI 1 := by decide +kernel
theorem c_ni {M : ir_M} {d : Nat} {x : Int32} : m_X11_needImage (d + 1) x M = if k_rng x 3 = true then ir_oV M else ir_oX 1 (ir_th M) := by
  rw [E_X11_needImage]
  exact k_rng_c (by decide)
section IM
variable {L : Nat} {xs : Nat → Int32}
theorem q_Iv_im {j i : Nat} {M M' : ir_M} (hi : i < 3) (hI : q_Iv L xs j M) (hM : M'.2 = M.2) (fr : ∀ x, (x < 140 + 88 * i ∨ 140 + 88 * i + 88 ≤ x ∨ x = 140 + 88 * i + 6) → x ≠ 98 → x ≠ 412 → x ≠ 415 → x ≠ 416 → M'.1 x = M.1 x) (f98 : ∀ k, k ≠ i → ir_I M' 98 k = ir_I M 98 k) (f416 : ∀ k, k ≠ i → ir_I M' 416 k = ir_I M 416 k) (f412 : ∀ k, q_l2 412 k = true → ir_I M' 412 k = ir_I M 412 k) (f415 : ∀ k, ¬ (1640 * i ≤ k ∧ k < 1640 * i + 1640) → ir_I M' 415 k = ir_I M 415 k) (h98 : ir_I M' 98 i = 1) (h416 : ir_I M' 416 i = 1) (hw : k_wf (k_im M' i)) (hs : c_sc M' (140 + 88 * i) (k_im M' i)) : q_Iv L xs (j + 1) M' := by
  have g : q_go 0 M M' := q_go_2 hI.1 hM (fun a ha => fr a (by omega) (by omega) (by omega) (by omega) (by omega))
  have hx := q_Iv_X hI g
  obtain ⟨-, -, h3, h4, h5, ⟨i1, i2, ⟨tp, t1, t2, t3, t4⟩, i4, i5⟩, h7⟩ := hI
  have F : ∀ a k, (a < 98 ∨ 404 ≤ a ∨ a = 121 ∨ a = 122) → a ≠ 412 → a ≠ 415 → a ≠ 416 → ir_I M' a k = ir_I M a k := fun a k h1 h2 h3 h4 => congrFun (fr a (by omega) (by omega) h2 h3 h4) k
  have v1 : q_v1 M M' := fun a ha => by
    by_cases q : a < 98
    · exact fr a (by omega) (by omega) (by omega) (by omega) (by omega)
    · have : a = 413 := by
        unfold q_l1 at ha
        simp only [Bool.or_eq_true, Bool.and_eq_true, Nat.ble_eq, Nat.beq_eq, Bool.not_eq_true'] at ha
        omega
      rw [this]
      exact fr 413 (by omega) (by omega) (by omega) (by omega) (by omega)
  have v3 : q_v3 M M' := fun a k ha => by
    have : a = 121 ∨ a = 122 := by
      unfold q_l3 at ha
      simp only [Bool.or_eq_true, Bool.and_eq_true, Nat.ble_eq, Nat.beq_eq] at ha
      omega
    exact F a k (by omega) (by omega) (by omega) (by omega)
  refine ⟨hx.1, hx.2, by have := g.2.2.1; omega, by have := g.2.2.2; omega, c_I1_fr v1 h5, ⟨fun x hx => ?_, fun x hx => ?_, ⟨tp, t1, (F 1 1 (by omega) (by omega) (by omega) (by omega)).trans t2, (f412 6 rfl).trans t3, fun k hk => ?_⟩, ?_, ?_⟩, c_I3_fr v3 (v1 413 rfl) h7⟩
  · by_cases q : x = i
    · rw [q]
      exact Or.inr ⟨h98, h416, hw, hs⟩
    · have e : k_im M' x = k_im M x := funext fun k => by
        unfold k_im
        by_cases qk : k < 1640
        · rw [if_pos qk, if_pos qk]
          exact f415 (1640 * x + k) (by omega)
        · rw [if_neg qk, if_neg qk]
      rw [e, f98 x q, f416 x q]
      rcases i1 x hx with z | ⟨q1, q2, q3, q4⟩
      · exact Or.inl z
      · exact Or.inr ⟨q1, q2, q3, c_sc_fr (fun j hj h6 => fr _ (by omega) (by omega) (by omega) (by omega) (by omega)) q4⟩
  · have fa : ∀ k, ir_I M' (404 + 2 * x) k = ir_I M (404 + 2 * x) k := fun k => F _ k (by omega) (by omega) (by omega) (by omega)
    have fb : ∀ k, ir_I M' 433 k = ir_I M 433 k := fun k => F _ k (by omega) (by omega) (by omega) (by omega)
    have fc : ∀ k, ir_I M' 434 k = ir_I M 434 k := fun k => F _ k (by omega) (by omega) (by omega) (by omega)
    have fd : ∀ a k, ir_J M' a k = ir_J M a k := fun a k => by
      show M'.2.1 a k = M.2.1 a k
      rw [hM]
    have := i2 x hx
    unfold c_ty at this ⊢
    simp only [fa, fb, fc, fd]
    exact this
  · rw [F 417 k (by omega) (by omega) (by omega) (by omega), F 2 k (by omega) (by omega) (by omega) (by omega)]
    exact t4 k hk
  · rw [F 1 2 (by omega) (by omega) (by omega) (by omega), f412 14 rfl]
    exact i4
  · refine ⟨?_, fun k hk => (congrFun (fr 115 (by omega) (by omega) (by omega) (by omega) (by omega)) k).trans (i5.2 k hk)⟩
    rw [F 1 3 (by omega) (by omega) (by omega) (by omega), f412 15 rfl]
    exact i5.1
theorem S_image (a : Int32) : q_Sv L xs (q_Iv L xs) (m_L_image 200 1 a) (m_X12_image 200 412 a) := by
  intro j M hI
  have hp := hI.1
  have hpt : q_PI (ir_th M) := (q_st_th hp).1.1
  have w2 : ((0 : Int64).toInt ≤ a.toInt64.toInt ∧ a.toInt64.toInt ≤ (2 : Int64).toInt) = (k_rng a 3 = true) := k_wir (c := 2) (n := 2) (by decide +kernel)
  by_cases ha : k_rng a 3
  · obtain ⟨hwf, hsc⟩ := hI.2.2.2.2.1
    obtain ⟨K, eK⟩ : ∃ K, K = M.1 413 := ⟨_, rfl⟩
    rw [← eK] at hwf hsc
    obtain ⟨i, hi, rfl⟩ := k_rng_of ha (by decide)
    have si : 140 + 88 * i = 3 ∨ 140 + 88 * i = 140 ∨ 140 + 88 * i = 228 ∨ 140 + 88 * i = 316 := by omega
    obtain ⟨M1, e1, fr1, m1, s1⟩ := c_sctake (d := 195) hp si (Or.inl rfl) (by omega) hwf hsc
    have hp1 := q_PI_o m1 hp
    obtain ⟨M2, eM2⟩ : ∃ N, N = ir_sI M1 98 i (nI 1) := ⟨_, rfl⟩
    have hp2 : q_PI M2 := by rw [eM2]; exact hp1
    obtain ⟨N, eN⟩ : ∃ N, N = ir_sI (ir_sI M2 412 4 (nI 0)) 416 i (nI 1) := ⟨_, rfl⟩
    have hpN : q_PI N := by rw [eN]; exact hp2
    have N413 : ∀ k, ir_I N 413 k = K k := fun k => by
      rw [eN, q_I_n (by decide), q_I_n (by decide), eM2, q_I_n (by decide), eK]
      exact congrFun (fr1 413 (by omega)) k
    have Lp := q_up (σ := ir_M) (V := fun x t => v_X12_image_38 199 412 (nI i) (nI x) t) (N := 1640) (I := fun x t => q_eq [415] N t ∧ ∀ k, ir_I t 415 k = if 1640 * i ≤ k ∧ k < 1640 * i + x then K (k - 1640 * i) else ir_I N 415 k) (K := ir_oV) (by
      rintro x t hx ⟨hq, ht⟩
      have hpt := q_PI_eq hq hpN
      refine ⟨ir_sI t 415 (1640 * i + x) (K x), ⟨hq.tr (q_eq.sI (by decide)), fun k => ?_⟩, ?_⟩
      · rw [q_I_u, ht]
        by_cases q : k = 1640 * i + x
        · rw [if_pos q, if_pos (by omega), show k - 1640 * i = x by omega]
        · rw [if_neg q]
          by_cases q2 : 1640 * i ≤ k ∧ k < 1640 * i + x
          · rw [if_pos q2, if_pos (by omega)]
          · rw [if_neg q2, if_neg (by omega)]
      · have kx : ir_I t 413 x = K x := by rw [q_I_eq hq (by decide)]; exact N413 x
        rw [L_X12_image_38]
        simp (disch := omega) only [q_ckt, q_lt, q_cI, q_cJ, q_cV, q_cP, q_xI, q_xV, q_xP, q_xJ, g_gk, g_ga, g_gw, g_gp, g_gq, g_P, g_J, q_I_s, q_I_n, q_I_k, nI_add, pk_sub, pk_mul, nI_clamp, n_lt0, n_0lt, n_eq0, n_lt, n_le, n_eq, n_m1, n_m2, n_m9, n_12, n_19, n_10, n_01, n_1n1, n_0n1, n_1n0, n_0n0, n_dI, n_m1lt, q_inb, n_nar, n_nar0, n_nar1, n_bool, Bool.false_eq_true, Bool.true_eq_false, if_true, if_false, ↓reduceIte, Nat.reduceAdd, Nat.reduceMul, Nat.reduceSub, Nat.reduceLT, Nat.reduceLeDiff, Nat.reduceEqDiff, Nat.reduceMod, Nat.reduceDiv, hx, q_R hpt, kx]) (by
      rintro t ⟨hq, ht⟩
      rw [L_X12_image_38]
      simp (disch := omega) only [q_ckt, q_lt, q_cI, q_cJ, q_cV, q_cP, q_xI, q_xV, q_xP, q_xJ, g_gk, g_ga, g_gw, g_gp, g_gq, g_P, g_J, q_I_s, q_I_n, q_I_k, nI_add, pk_sub, pk_mul, nI_clamp, n_lt0, n_0lt, n_eq0, n_lt, n_le, n_eq, n_m1, n_m2, n_m9, n_12, n_19, n_10, n_01, n_1n1, n_0n1, n_1n0, n_0n0, n_dI, n_m1lt, q_inb, n_nar, n_nar0, n_nar1, n_bool, Bool.false_eq_true, Bool.true_eq_false, if_true, if_false, ↓reduceIte, Nat.reduceAdd, Nat.reduceMul, Nat.reduceSub, Nat.reduceLT, Nat.reduceLeDiff, Nat.reduceEqDiff, Nat.reduceMod, Nat.reduceDiv]) (i := 0) (t := N) (by omega) ⟨q_eq.rf _ _, fun k => by rw [if_neg (by omega)]⟩
    obtain ⟨M3, ⟨q3, a3⟩, e3⟩ := Lp
    have m3 : M3.2 = M.2 := by
      rw [q3.2, eN]
      show M2.2 = M.2
      rw [eM2]
      exact m1
    have frN : ∀ x, x ≠ 98 → x ≠ 412 → x ≠ 416 → N.1 x = M1.1 x := fun x h1 h2 h3 => by
      rw [eN]
      refine (if_neg h3).trans ((if_neg h2).trans ?_)
      rw [eM2]
      exact if_neg h1
    have fr3 : ∀ x, x ≠ 98 → x ≠ 412 → x ≠ 415 → x ≠ 416 → M3.1 x = M1.1 x := fun x h1 h2 h3 h4 => (q3.1 x (by simp only [List.mem_cons, List.not_mem_nil, or_false]; exact h3)).trans (frN x h1 h2 h4)
    have z0 : ∀ k, 1640 ≤ k → K k = 0 := by
      obtain ⟨r, -, -, -, z⟩ := hwf.2.2.2
      exact z
    have im : k_im M3 i = K := funext fun k => by
      unfold k_im
      by_cases qk : k < 1640
      · rw [if_pos qk]
        have := a3 (1640 * i + k)
        rw [if_pos (by omega), show 1640 * i + k - 1640 * i = k by omega] at this
        exact this
      · rw [if_neg qk, z0 k (by omega)]
    have gX : q_PI M2 ∧ q_X L xs M2 := by
      have g : q_go 0 M M2 := q_go_2 hp (by rw [eM2]; exact m1) (fun x hx => by
        rw [eM2]
        exact (if_neg (show ¬ x = 98 by omega)).trans (fr1 x (by omega)))
      exact q_Iv_X hI g
    refine ⟨nI 0, M2, M3, ?_, gX.1, gX.2, ?_, ?_, q_Iv_im hi hI m3 (fun x h1 h2 h3 h4 h5 => (fr3 x h2 h3 h4 h5).trans (fr1 x h1)) (fun k hk => ?_) (fun k hk => ?_) (fun k hk => ?_) (fun k hk => ?_) ?_ ?_ ?_ ?_⟩
    · rw [E_L_image 199, E_X11_image 198]
      simp (disch := omega) only [q_ckt, q_lt, q_cI, q_cJ, q_cV, q_cP, q_xI, q_xV, q_xP, q_xJ, g_gk, g_ga, g_gw, g_gp, g_gq, g_P, g_J, q_I_s, q_I_n, q_I_k, nI_add, pk_sub, pk_mul, nI_clamp, n_lt0, n_0lt, n_eq0, n_lt, n_le, n_eq, n_m1, n_m2, n_m9, n_12, n_19, n_10, n_01, n_1n1, n_0n1, n_1n0, n_0n0, n_dI, n_m1lt, q_inb, n_nar, n_nar0, n_nar1, n_bool, Bool.false_eq_true, Bool.true_eq_false, if_true, if_false, ↓reduceIte, Nat.reduceAdd, Nat.reduceMul, Nat.reduceSub, Nat.reduceLT, Nat.reduceLeDiff, Nat.reduceEqDiff, Nat.reduceMod, Nat.reduceDiv, q_W hp, c_ni, ha, q_Y hp, q_97 hp hi, n_blt, Bool.or_true, Bool.true_or, Bool.and_self, q_Sc hp si, e1, q_W hp1, q_Y hp1, q_b98, q_bV1]
      rw [eM2]
    · rw [E_X12_image 199]
      simp (disch := omega) only [q_ckt, q_lt, q_cI, q_cJ, q_cV, q_cP, q_xI, q_xV, q_xP, q_xJ, g_gk, g_ga, g_gw, g_gp, g_gq, g_P, g_J, q_I_s, q_I_n, q_I_k, nI_add, pk_sub, pk_mul, nI_clamp, n_lt0, n_0lt, n_eq0, n_lt, n_le, n_eq, n_m1, n_m2, n_m9, n_12, n_19, n_10, n_01, n_1n1, n_0n1, n_1n0, n_0n0, n_dI, n_m1lt, q_inb, n_nar, n_nar0, n_nar1, n_bool, Bool.false_eq_true, Bool.true_eq_false, if_true, if_false, ↓reduceIte, Nat.reduceAdd, Nat.reduceMul, Nat.reduceSub, Nat.reduceLT, Nat.reduceLeDiff, Nat.reduceEqDiff, Nat.reduceMod, Nat.reduceDiv, r_within, w2, ha]
      rw [L_X12_image_18]
      simp (disch := omega) only [q_ckt, q_lt, q_cI, q_cJ, q_cV, q_cP, q_xI, q_xV, q_xP, q_xJ, g_gk, g_ga, g_gw, g_gp, g_gq, g_P, g_J, q_I_s, q_I_n, q_I_k, nI_add, pk_sub, pk_mul, nI_clamp, n_lt0, n_0lt, n_eq0, n_lt, n_le, n_eq, n_m1, n_m2, n_m9, n_12, n_19, n_10, n_01, n_1n1, n_0n1, n_1n0, n_0n0, n_dI, n_m1lt, q_inb, n_nar, n_nar0, n_nar1, n_bool, Bool.false_eq_true, Bool.true_eq_false, if_true, if_false, ↓reduceIte, Nat.reduceAdd, Nat.reduceMul, Nat.reduceSub, Nat.reduceLT, Nat.reduceLeDiff, Nat.reduceEqDiff, Nat.reduceMod, Nat.reduceDiv, q_R hp2, q_b416, Bool.or_true, Bool.true_or]
      rw [← eN]
      exact e3
    · show ir_I M3 412 4 = nI 0
      rw [q_I_eq q3 (by decide), eN, q_I_n (by decide), q_I_s]
    · rw [q_I_eq q3 (by decide), eN, q_I_n (by decide), q_I_n (by decide), eM2, q_I_k hk]
      exact congrFun (fr1 98 (by omega)) k
    · rw [q_I_eq q3 (by decide), eN, q_I_k hk, q_I_n (by decide), eM2, q_I_n (by decide)]
      exact congrFun (fr1 416 (by omega)) k
    · rw [q_I_eq q3 (by decide), eN, q_I_n (by decide), q_I_k (fun q => by rw [q] at hk; exact nomatch hk), eM2, q_I_n (by decide)]
      exact congrFun (fr1 412 (by omega)) k
    · rw [a3, if_neg hk, eN, q_I_n (by decide), q_I_n (by decide), eM2, q_I_n (by decide)]
      exact congrFun (fr1 415 (by omega)) k
    · rw [q_I_eq q3 (by decide), eN, q_I_n (by decide), q_I_n (by decide), eM2, q_I_s]
      rfl
    · rw [q_I_eq q3 (by decide), eN, q_I_s]
      rfl
    · rw [im]; exact hwf
    · rw [im]
      exact c_sc_fr (fun j hj h6 => fr3 _ (by omega) (by omega) (by omega) (by omega)) s1
  · refine q_Sv_t (k := 1) (M2 := ir_sI (ir_th M) 412 4 (nI 1)) hI ?_ ?_ (q_st_4 hpt rfl) q_I_s
    · rw [E_L_image 199, E_X11_image 198]
      simp (disch := omega) only [q_ckt, q_lt, q_cI, q_cJ, q_cV, q_cP, q_xI, q_xV, q_xP, q_xJ, g_gk, g_ga, g_gw, g_gp, g_gq, g_P, g_J, q_I_s, q_I_n, q_I_k, nI_add, pk_sub, pk_mul, nI_clamp, n_lt0, n_0lt, n_eq0, n_lt, n_le, n_eq, n_m1, n_m2, n_m9, n_12, n_19, n_10, n_01, n_1n1, n_0n1, n_1n0, n_0n0, n_dI, n_m1lt, q_inb, n_nar, n_nar0, n_nar1, n_bool, Bool.false_eq_true, Bool.true_eq_false, if_true, if_false, ↓reduceIte, Nat.reduceAdd, Nat.reduceMul, Nat.reduceSub, Nat.reduceLT, Nat.reduceLeDiff, Nat.reduceEqDiff, Nat.reduceMod, Nat.reduceDiv, q_W hp, c_ni, ha, q_bV2]
    · rw [E_X12_image 199]
      simp (disch := omega) only [q_ckt, q_lt, q_cI, q_cJ, q_cV, q_cP, q_xI, q_xV, q_xP, q_xJ, g_gk, g_ga, g_gw, g_gp, g_gq, g_P, g_J, q_I_s, q_I_n, q_I_k, nI_add, pk_sub, pk_mul, nI_clamp, n_lt0, n_0lt, n_eq0, n_lt, n_le, n_eq, n_m1, n_m2, n_m9, n_12, n_19, n_10, n_01, n_1n1, n_0n1, n_1n0, n_0n0, n_dI, n_m1lt, q_inb, n_nar, n_nar0, n_nar1, n_bool, Bool.false_eq_true, Bool.true_eq_false, if_true, if_false, ↓reduceIte, Nat.reduceAdd, Nat.reduceMul, Nat.reduceSub, Nat.reduceLT, Nat.reduceLeDiff, Nat.reduceEqDiff, Nat.reduceMod, Nat.reduceDiv, r_within, w2, ha, L_X12_image_18, q_R hpt]
theorem S_restore (a : Int32) : q_Sv L xs (q_Iv L xs) (m_L_restore 200 1 a) (m_X12_restore 200 412 a) := by
  intro j M hI
  have hp := hI.1
  have hst := q_st_th hp
  have hpt : q_PI (ir_th M) := hst.1.1
  have w2 : ((0 : Int64).toInt ≤ a.toInt64.toInt ∧ a.toInt64.toInt ≤ (2 : Int64).toInt) = (k_rng a 3 = true) := k_wir (c := 2) (n := 2) (by decide +kernel)
  by_cases ha : k_rng a 3
  · obtain ⟨i, hi, rfl⟩ := k_rng_of ha (by decide)
    rcases hI.2.2.2.2.2.1.1 i hi with ⟨q1, q2⟩ | ⟨q1, q2, hwf, hsc⟩
    · refine q_Sv_t (k := 2) (M2 := ir_sI (ir_th M) 412 4 (nI 2)) hI ?_ ?_ (q_st_4 hpt rfl) q_I_s
      · rw [E_L_restore 199, E_X11_restore 198]
        simp (disch := omega) only [q_ckt, q_lt, q_cI, q_cJ, q_cV, q_cP, q_xI, q_xV, q_xP, q_xJ, g_gk, g_ga, g_gw, g_gp, g_gq, g_P, g_J, q_I_s, q_I_n, q_I_k, nI_add, pk_sub, pk_mul, nI_clamp, n_lt0, n_0lt, n_eq0, n_lt, n_le, n_eq, n_m1, n_m2, n_m9, n_12, n_19, n_10, n_01, n_1n1, n_0n1, n_1n0, n_0n0, n_dI, n_m1lt, q_inb, n_nar, n_nar0, n_nar1, n_bool, Bool.false_eq_true, Bool.true_eq_false, if_true, if_false, ↓reduceIte, Nat.reduceAdd, Nat.reduceMul, Nat.reduceSub, Nat.reduceLT, Nat.reduceLeDiff, Nat.reduceEqDiff, Nat.reduceMod, Nat.reduceDiv, q_W hp, c_ni, ha, q_Y hp, Bool.or_true, Bool.true_or, q1, q_bV2]
      · rw [E_X12_restore 199]
        simp (disch := omega) only [q_ckt, q_lt, q_cI, q_cJ, q_cV, q_cP, q_xI, q_xV, q_xP, q_xJ, g_gk, g_ga, g_gw, g_gp, g_gq, g_P, g_J, q_I_s, q_I_n, q_I_k, nI_add, pk_sub, pk_mul, nI_clamp, n_lt0, n_0lt, n_eq0, n_lt, n_le, n_eq, n_m1, n_m2, n_m9, n_12, n_19, n_10, n_01, n_1n1, n_0n1, n_1n0, n_0n0, n_dI, n_m1lt, q_inb, n_nar, n_nar0, n_nar1, n_bool, Bool.false_eq_true, Bool.true_eq_false, if_true, if_false, ↓reduceIte, Nat.reduceAdd, Nat.reduceMul, Nat.reduceSub, Nat.reduceLT, Nat.reduceLeDiff, Nat.reduceEqDiff, Nat.reduceMod, Nat.reduceDiv, r_within, w2, ha, q_R hpt, Bool.or_true, Bool.true_or, show ir_I (ir_th M) 416 i = 0 from (hst.2.2.1.1 416 i rfl).trans q2, L_X12_restore_31]
    · have si : 140 + 88 * i = 3 ∨ 140 + 88 * i = 140 ∨ 140 + 88 * i = 228 ∨ 140 + 88 * i = 316 := by omega
      obtain ⟨M1, e1, fr1, m1, s1⟩ := c_sctake (d := 195) hp (Or.inl rfl) si (by omega) hwf hsc
      have hp1 := q_PI_o m1 hp
      obtain ⟨M2, eM2⟩ : ∃ N, N = ir_sI M1 121 0 (nI 0) := ⟨_, rfl⟩
      have hp2 : q_PI M2 := by rw [eM2]; exact hp1
      have dc : q_dc M M2 := by
        refine ⟨fun x hx => ?_, fun k hk => ?_, by rw [eM2]; exact m1⟩
        · have h3 : x < 3 ∨ 91 ≤ x := by
            rcases Nat.lt_or_ge x 3 with z | z
            · exact Or.inl z
            · rcases Nat.lt_or_ge x 91 with z2 | z2
              · have : q_pc x = true := by
                  unfold q_pc
                  rw [Nat.ble_eq_true_of_le z, Nat.ble_eq_true_of_le (show x ≤ 90 by omega)]
                  rfl
                rw [this] at hx
                exact nomatch hx
              · exact Or.inr z2
          have h121 : x ≠ 121 := fun q => by rw [q] at hx; exact nomatch hx
          rw [eM2]
          exact (if_neg h121).trans (fr1 x (by omega))
        · rw [eM2]
          exact (q_I_n (M := M1) (a := 121) (b := 1) (by decide)).trans (congrFun (fr1 1 (by omega)) k)
      have z0 : ∀ k, 1640 ≤ k → M.1 413 k = 0 := by
        obtain ⟨r, -, -, -, z⟩ := hI.2.2.2.2.1.1.2.2.2
        exact z
      obtain ⟨N, eN⟩ : ∃ N, N = ir_sI M2 412 4 (nI 0) := ⟨_, rfl⟩
      have hpN : q_PI N := by rw [eN]; exact hp2
      have nI1 : ∀ x k, x ≠ 412 → x ≠ 121 → (91 ≤ x ∨ x < 3) → ir_I N x k = ir_I M x k := fun x k h1 h2 h3 => by
        rw [eN, q_I_n h1, eM2, q_I_n h2]
        exact congrFun (fr1 x (by omega)) k
      have Lp := q_up (σ := ir_M) (V := fun x t => v_X12_restore_44 199 412 (nI i) (nI x) t) (N := 1640) (I := fun x t => q_eq [413] N t ∧ ∀ k, ir_I t 413 k = if k < x then k_im M i k else M.1 413 k) (K := ir_oV) (by
        rintro x t hx ⟨hq, ht⟩
        have hpt := q_PI_eq hq hpN
        have ix : ir_I t 415 (1640 * i + x) = k_im M i x := by
          rw [q_I_eq hq (by decide), nI1 _ _ (by omega) (by omega) (by omega)]
          unfold k_im
          rw [if_pos hx]
          rfl
        refine ⟨ir_sI t 413 x (k_im M i x), ⟨hq.tr (q_eq.sI (by decide)), fun k => ?_⟩, ?_⟩
        · rw [q_I_u, ht]
          by_cases q : k = x
          · rw [if_pos q, if_pos (by omega), q]
          · rw [if_neg q]
            by_cases q2 : k < x
            · rw [if_pos q2, if_pos (by omega)]
            · rw [if_neg q2, if_neg (by omega)]
        · rw [L_X12_restore_44]
          simp (disch := omega) only [q_ckt, q_lt, q_cI, q_cJ, q_cV, q_cP, q_xI, q_xV, q_xP, q_xJ, g_gk, g_ga, g_gw, g_gp, g_gq, g_P, g_J, q_I_s, q_I_n, q_I_k, nI_add, pk_sub, pk_mul, nI_clamp, n_lt0, n_0lt, n_eq0, n_lt, n_le, n_eq, n_m1, n_m2, n_m9, n_12, n_19, n_10, n_01, n_1n1, n_0n1, n_1n0, n_0n0, n_dI, n_m1lt, q_inb, n_nar, n_nar0, n_nar1, n_bool, Bool.false_eq_true, Bool.true_eq_false, if_true, if_false, ↓reduceIte, Nat.reduceAdd, Nat.reduceMul, Nat.reduceSub, Nat.reduceLT, Nat.reduceLeDiff, Nat.reduceEqDiff, Nat.reduceMod, Nat.reduceDiv, hx, q_R hpt, ix]) (by
        rintro t ⟨hq, ht⟩
        rw [L_X12_restore_44]
        simp (disch := omega) only [q_ckt, q_lt, q_cI, q_cJ, q_cV, q_cP, q_xI, q_xV, q_xP, q_xJ, g_gk, g_ga, g_gw, g_gp, g_gq, g_P, g_J, q_I_s, q_I_n, q_I_k, nI_add, pk_sub, pk_mul, nI_clamp, n_lt0, n_0lt, n_eq0, n_lt, n_le, n_eq, n_m1, n_m2, n_m9, n_12, n_19, n_10, n_01, n_1n1, n_0n1, n_1n0, n_0n0, n_dI, n_m1lt, q_inb, n_nar, n_nar0, n_nar1, n_bool, Bool.false_eq_true, Bool.true_eq_false, if_true, if_false, ↓reduceIte, Nat.reduceAdd, Nat.reduceMul, Nat.reduceSub, Nat.reduceLT, Nat.reduceLeDiff, Nat.reduceEqDiff, Nat.reduceMod, Nat.reduceDiv]) (i := 0) (t := N) (by omega) ⟨q_eq.rf _ _, fun k => by rw [if_neg (by omega), nI1 _ _ (by omega) (by omega) (by omega)]; rfl⟩
      obtain ⟨M3, ⟨q3, a3⟩, e3⟩ := Lp
      have gX := q_Iv_X hI (dc.go hp)
      have dr : q_dr M2 M3 := by
        refine q_dr.tr ?_ (q_dr_eq q3 (by decide))
        rw [eN]
        exact q_dr_4 rfl
      refine ⟨nI 0, M2, M3, ?_, gX.1, gX.2, ?_, ?_, q_Iv_d hI dc ?_ (c_sc_fr (fun j hj h6 => ?_) s1) hwf (q_st.rf hp2) dr (fun k => ?_)⟩
      · rw [E_L_restore 199, E_X11_restore 198]
        simp (disch := omega) only [q_ckt, q_lt, q_cI, q_cJ, q_cV, q_cP, q_xI, q_xV, q_xP, q_xJ, g_gk, g_ga, g_gw, g_gp, g_gq, g_P, g_J, q_I_s, q_I_n, q_I_k, nI_add, pk_sub, pk_mul, nI_clamp, n_lt0, n_0lt, n_eq0, n_lt, n_le, n_eq, n_m1, n_m2, n_m9, n_12, n_19, n_10, n_01, n_1n1, n_0n1, n_1n0, n_0n0, n_dI, n_m1lt, q_inb, n_nar, n_nar0, n_nar1, n_bool, Bool.false_eq_true, Bool.true_eq_false, if_true, if_false, ↓reduceIte, Nat.reduceAdd, Nat.reduceMul, Nat.reduceSub, Nat.reduceLT, Nat.reduceLeDiff, Nat.reduceEqDiff, Nat.reduceMod, Nat.reduceDiv, q_W hp, c_ni, ha, q_Y hp, Bool.or_true, Bool.true_or, q1, q_97 hp hi, n_blt, Bool.and_self, q_W hp, e1, q_W hp1, q_O hp1, show ir_isB (nI 0) = true from rfl, q_bV1]
        rw [eM2]
      · rw [E_X12_restore 199]
        simp (disch := omega) only [q_ckt, q_lt, q_cI, q_cJ, q_cV, q_cP, q_xI, q_xV, q_xP, q_xJ, g_gk, g_ga, g_gw, g_gp, g_gq, g_P, g_J, q_I_s, q_I_n, q_I_k, nI_add, pk_sub, pk_mul, nI_clamp, n_lt0, n_0lt, n_eq0, n_lt, n_le, n_eq, n_m1, n_m2, n_m9, n_12, n_19, n_10, n_01, n_1n1, n_0n1, n_1n0, n_0n0, n_dI, n_m1lt, q_inb, n_nar, n_nar0, n_nar1, n_bool, Bool.false_eq_true, Bool.true_eq_false, if_true, if_false, ↓reduceIte, Nat.reduceAdd, Nat.reduceMul, Nat.reduceSub, Nat.reduceLT, Nat.reduceLeDiff, Nat.reduceEqDiff, Nat.reduceMod, Nat.reduceDiv, r_within, w2, ha, q_R hp2, Bool.or_true, Bool.true_or, show ir_I M2 416 i = 1 from by rw [eM2, q_I_n (by decide)]; exact (congrFun (fr1 416 (by omega)) i).trans q2]
        rw [L_X12_restore_31]
        simp (disch := omega) only [q_ckt, q_lt, q_cI, q_cJ, q_cV, q_cP, q_xI, q_xV, q_xP, q_xJ, g_gk, g_ga, g_gw, g_gp, g_gq, g_P, g_J, q_I_s, q_I_n, q_I_k, nI_add, pk_sub, pk_mul, nI_clamp, n_lt0, n_0lt, n_eq0, n_lt, n_le, n_eq, n_m1, n_m2, n_m9, n_12, n_19, n_10, n_01, n_1n1, n_0n1, n_1n0, n_0n0, n_dI, n_m1lt, q_inb, n_nar, n_nar0, n_nar1, n_bool, Bool.false_eq_true, Bool.true_eq_false, if_true, if_false, ↓reduceIte, Nat.reduceAdd, Nat.reduceMul, Nat.reduceSub, Nat.reduceLT, Nat.reduceLeDiff, Nat.reduceEqDiff, Nat.reduceMod, Nat.reduceDiv, q_R hp2]
        rw [← eN]
        exact e3
      · show ir_I M3 412 4 = nI 0
        rw [q_I_eq q3 (by decide), eN, q_I_s]
      · rw [eM2, q_I_s]
        rfl
      · rw [eM2]
        exact if_neg (by omega)
      · rw [a3]
        by_cases q : k < 1640
        · rw [if_pos q]
        · rw [if_neg q, z0 k (by omega)]
          unfold k_im
          rw [if_neg q]
  · refine q_Sv_t (k := 1) (M2 := ir_sI (ir_th M) 412 4 (nI 1)) hI ?_ ?_ (q_st_4 hpt rfl) q_I_s
    · rw [E_L_restore 199, E_X11_restore 198]
      simp (disch := omega) only [q_ckt, q_lt, q_cI, q_cJ, q_cV, q_cP, q_xI, q_xV, q_xP, q_xJ, g_gk, g_ga, g_gw, g_gp, g_gq, g_P, g_J, q_I_s, q_I_n, q_I_k, nI_add, pk_sub, pk_mul, nI_clamp, n_lt0, n_0lt, n_eq0, n_lt, n_le, n_eq, n_m1, n_m2, n_m9, n_12, n_19, n_10, n_01, n_1n1, n_0n1, n_1n0, n_0n0, n_dI, n_m1lt, q_inb, n_nar, n_nar0, n_nar1, n_bool, Bool.false_eq_true, Bool.true_eq_false, if_true, if_false, ↓reduceIte, Nat.reduceAdd, Nat.reduceMul, Nat.reduceSub, Nat.reduceLT, Nat.reduceLeDiff, Nat.reduceEqDiff, Nat.reduceMod, Nat.reduceDiv, q_W hp, c_ni, ha, q_bV2]
    · rw [E_X12_restore 199]
      simp (disch := omega) only [q_ckt, q_lt, q_cI, q_cJ, q_cV, q_cP, q_xI, q_xV, q_xP, q_xJ, g_gk, g_ga, g_gw, g_gp, g_gq, g_P, g_J, q_I_s, q_I_n, q_I_k, nI_add, pk_sub, pk_mul, nI_clamp, n_lt0, n_0lt, n_eq0, n_lt, n_le, n_eq, n_m1, n_m2, n_m9, n_12, n_19, n_10, n_01, n_1n1, n_0n1, n_1n0, n_0n0, n_dI, n_m1lt, q_inb, n_nar, n_nar0, n_nar1, n_bool, Bool.false_eq_true, Bool.true_eq_false, if_true, if_false, ↓reduceIte, Nat.reduceAdd, Nat.reduceMul, Nat.reduceSub, Nat.reduceLT, Nat.reduceLeDiff, Nat.reduceEqDiff, Nat.reduceMod, Nat.reduceDiv, r_within, w2, ha, L_X12_restore_31, q_R hpt]
end IM
