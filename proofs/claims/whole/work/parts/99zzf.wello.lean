/-! THE WELL: the call -/
section SW
variable {L : Nat} {xs : Nat → Int32}
theorem q_Iv_wl {j : Nat} {M M' : ir_M} (hI : q_Iv L xs j M) (g : q_go 0 M M') (fr : ∀ a, a ≠ 1 → ¬ (3 ≤ a ∧ a ≤ 17) → ¬ (100 ≤ a ∧ a ≤ 114) → a ≠ 121 → a ≠ 412 → a ≠ 413 → a ≠ 414 → M'.1 a = M.1 a) (fJ : ∀ a, a ≠ 436 → M'.2.1 a = M.2.1 a) (t1 : ir_I M' 1 1 = nI 0) (t2 : ir_I M' 412 6 = nI 0) (t3 : ir_I M' 1 2 = ir_I M' 412 14) (t4 : ir_I M' 1 3 = ir_I M' 412 15) (i1' : c_I1 M') (i3' : c_I3 M') : q_Iv L xs (j + 1) M' := by
  have hx := q_Iv_X hI g
  obtain ⟨-, -, h3, h4, h5, ⟨i1, i2, -, i4, i5⟩, h7⟩ := hI
  have F : ∀ a k, a ≠ 1 ∧ ¬ (3 ≤ a ∧ a ≤ 17) ∧ ¬ (100 ≤ a ∧ a ≤ 114) ∧ a ≠ 121 ∧ a ≠ 412 ∧ a ≠ 413 ∧ a ≠ 414 → ir_I M' a k = ir_I M a k := fun a k w => congrFun (fr a w.1 w.2.1 w.2.2.1 w.2.2.2.1 w.2.2.2.2.1 w.2.2.2.2.2.1 w.2.2.2.2.2.2) k
  refine ⟨hx.1, hx.2, by have := g.2.2.1; omega, by have := g.2.2.2; omega, i1', ⟨fun x hx => ?_, fun x hx => ?_, ⟨0, by decide, t1, t2, fun k hk => absurd hk (Nat.not_lt_zero _)⟩, t3, t4, fun k hk => (F 115 k (by omega)).trans (i5.2 k hk)⟩, i3'⟩
  · have e : k_im M' x = k_im M x := funext fun k => by
      unfold k_im
      rw [show M'.1 415 (1640 * x + k) = M.1 415 (1640 * x + k) from F 415 _ (by omega)]
    rw [e, F 98 x (by omega), F 416 x (by omega)]
    rcases i1 x hx with q | ⟨q1, q2, q3, q4⟩
    · exact Or.inl q
    · exact Or.inr ⟨q1, q2, q3, c_sc_fr (fun j hj h6 => funext fun k => F _ k (by omega)) q4⟩
  · have fa : ∀ k, ir_I M' (404 + 2 * x) k = ir_I M (404 + 2 * x) k := fun k => F _ k (by omega)
    have fb : ∀ k, ir_I M' 433 k = ir_I M 433 k := fun k => F _ k (by omega)
    have fc : ∀ k, ir_I M' 434 k = ir_I M 434 k := fun k => F _ k (by omega)
    have fd : ∀ k, ir_J M' (405 + 2 * x) k = ir_J M (405 + 2 * x) k := fun k => congrFun (fJ _ (by omega)) k
    have fe : ∀ k, ir_J M' 435 k = ir_J M 435 k := fun k => congrFun (fJ 435 (by decide)) k
    have := i2 x hx
    unfold c_ty at this ⊢
    simp only [fa, fb, fc, fd, fe]
    exact this
theorem S_well (a : Int32) : q_St L xs (q_Iv L xs) (m_L_well 200 1 a 436) (m_X12_well 200 412 a) := by
  intro j M hI
  have hp := hI.1
  have hx := hI.2.1
  obtain ⟨tp, t9, tc, tr, tb⟩ := hI.2.2.2.2.2.1.2.2.1
  have hls := hI.2.2.2.2.2.1.2.2.2.2.2
  by_cases ha : 0 ≤ a.toInt ∧ a.toInt ≤ (tp : Int)
  · obtain ⟨n, hn, rfl⟩ : ∃ n : Nat, n ≤ tp ∧ a = nI n := ⟨a.toInt.toNat, by omega, by
      rw [← Int32.toInt_inj, nI_toInt (by omega)]
      omega⟩
    obtain ⟨B, eB⟩ : ∃ B : Nat → Nat, B = fun k => (ir_I M 417 k).toNatClampNeg := ⟨_, rfl⟩
    have hB : ∀ k, k < n → B k < 256 ∧ ir_I M 417 k = nI (B k) ∧ ir_I M 2 k = (nI (B k)).toInt8.toInt32 := fun k hk => by
      obtain ⟨b, b1, b2, b3⟩ := tb k (by omega)
      have : B k = b := by rw [eB]; show (ir_I M 417 k).toNatClampNeg = b; rw [b2, nI_clamp (by omega)]
      rw [this]
      exact ⟨b1, b2, b3⟩
    obtain ⟨f, p, K', G, N, f4, hpn, hFR, CC, RR⟩ := w_Goods (B := B) (L := L) (xs := xs) (T := ir_I M 414) (n := n) (s := k_ts B n 0) (by omega) (by
      have sr := k_sk_r (B := B) (n - 0) 0
      show k_sk B (n - 0) 0 ≤ n
      omega)
    obtain ⟨Mr, er, Qr⟩ := c_rd (d := 198) (T := ir_I M 414) hp hx (by omega) (fun k hk => ⟨(hB k hk).1, (hB k hk).2.2⟩) hls (by decide) CC
    obtain ⟨N0, e0⟩ : ∃ X, X = ir_sP M 100 5 2 := ⟨_, rfl⟩
    rw [← e0] at Qr
    have g0 : q_go 0 M N0 := by rw [e0]; exact (q_st_P hp (by decide +kernel) (by decide) (by decide)).1
    have N01 : N0.1 = M.1 := by rw [e0]; rfl
    have N02 : N0.2.1 = M.2.1 := by rw [e0]; rfl
    have qr : q_eq c_fs N0 Mr ∧ q_PI Mr ∧ ir_I Mr 100 0 = nI f ∧ ir_I Mr 100 1 = (if f = 0 then -1 else nI p) := by
      by_cases c : f = 0
      · have P := Qr.1 c
        refine ⟨P.1.2.1, P.1.1.1, ?_, ?_⟩
        · rw [P.1.2.2.2.2.1, c]; rfl
        · rw [if_pos c]; exact P.1.2.2.2.2.2.1
      · have P := Qr.2 c
        refine ⟨P.2.1, P.1.1, P.2.2.2.1.1, ?_⟩
        rw [if_neg c]; exact P.2.2.2.2
    obtain ⟨qr, pr, r0, r1⟩ := qr
    obtain ⟨w15, ew⟩ : ∃ w : Int32, w = if f = 0 then -1 else nI p := ⟨_, rfl⟩
    rw [← ew] at r1
    obtain ⟨N3, e3⟩ : ∃ X, X = ir_sI (ir_sI (ir_sI Mr 1 1 (nI 0)) 1 2 (nI f)) 1 3 w15 := ⟨_, rfl⟩
    have q3 : q_eq [1] Mr N3 := by rw [e3]; exact ((q_eq.sI (by decide)).tr (q_eq.sI (by decide))).tr (q_eq.sI (by decide))
    have p3 := q_PI_eq q3 pr
    have n31 : ir_I N3 1 1 = nI 0 := by rw [e3, q_I_k (by decide), q_I_k (by decide), q_I_s]
    have n32 : ir_I N3 1 2 = nI f := by rw [e3, q_I_k (by decide), q_I_s]
    have n33 : ir_I N3 1 3 = w15 := by rw [e3, q_I_s]
    have nl : ¬ nI n < 0 := fun z => by
      have := (nI_ltI (a := n) (b := 0) (by omega) (by decide)).mp z
      omega
    have tl : ¬ tp < n := by omega
    -- the class's memory, and what it answers
    have key : ∃ (Mc : ir_M) (S : List Nat), m_X11_well 199 1 (nI n) M = ir_oI (if f = 0 then K' 0 else (-10 : Int32) - nI f) Mc ∧ q_eq S N3 Mc ∧ (∀ x, x ∈ S → (3 ≤ x ∧ x ≤ 17) ∨ x = 121) ∧ (f = 0 → c_tdT Mc 4 (k_ct0 K') ∧ c_ap Mc 4 (k_ct0 K') ∧ c_st Mc 12 (k_ct0 K') ∧ ir_I Mc 3 2 = nI 0 ∧ ir_I Mc 3 3 = ir_I N3 3 3 ∧ (∀ x, 18 ≤ x → x ≤ 90 → Mc.1 x = N3.1 x) ∧ ir_I Mc 121 0 = nI 0) ∧ (f ≠ 0 → Mc = N3) := by
      by_cases c : f = 0
      · have P := Qr.1 c
        have K3 : c_K N3 K' := by
          have nn : ∀ x, x ≠ 1 → N3.1 x = Mr.1 x := fun x hx => q3.1 x (fun w => hx (List.mem_singleton.mp w))
          exact ⟨c_tdT_fr (fun j h1 h2 h3 => nn _ (by omega)) P.2.1, c_ap_fr (nn _ (by decide)) P.2.2.1, c_st_fr (fun j h1 => nn _ (by omega)) P.2.2.2.1, fun p h1 h2 => (congrFun (nn 103 (by decide)) p).trans (P.2.2.2.2.1 p h1 h2), fun k h1 => (congrFun (nn 108 (by decide)) k).trans (P.2.2.2.2.2.1 k h1), fun p h1 => (congrFun (nn 113 (by decide)) p).trans (P.2.2.2.2.2.2 p h1)⟩
        obtain ⟨M5, e5, q5, c1, c2, c3, c4, c5, c6⟩ := c_beg p3 (hFR c) K3
        have p5 := q_PI_eq q5 p3
        have q6 : q_eq [121] M5 (ir_sI M5 121 0 (nI 0)) := q_eq.sI (by decide)
        have m6 : ∀ x, x ≠ 121 → (ir_sI M5 121 0 (nI 0)).1 x = M5.1 x := fun x hx => q6.1 x (fun w => hx (List.mem_singleton.mp w))
        refine ⟨ir_sI M5 121 0 (nI 0), [3, 4, 5, 6, 7, 8, 10, 11, 12, 13, 14, 15, 16, 17, 121], ?_, (q5.sub (by decide)).tr (q6.sub (by decide)), by decide, fun _ => ⟨c_tdT_fr (fun j h1 h2 h3 => m6 _ (by omega)) c1, c_ap_fr (m6 _ (by decide)) c2, c_st_fr (fun j h1 => m6 _ (by omega)) c3, ?_, ?_, fun x h1 h2 => ?_, q_I_s⟩, fun z => absurd c z⟩
        · rw [E_X11_well, if_neg nl, if_pos c]
          simp (disch := omega) only [q_ckt, q_lt, q_cI, q_cJ, q_cV, q_cP, q_xI, q_xV, q_xP, q_xJ, g_gk, g_ga, g_gw, g_gp, g_gq, g_P, g_J, q_I_s, q_I_n, q_I_k, nI_add, pk_sub, pk_mul, nI_clamp, n_lt0, n_0lt, n_eq0, n_lt, n_le, n_eq, n_m1, n_m2, n_m9, n_12, n_19, n_10, n_01, n_1n1, n_0n1, n_1n0, n_0n0, n_dI, n_m1lt, q_inb, n_nar, n_nar0, n_nar1, n_bool, Bool.false_eq_true, Bool.true_eq_false, if_true, if_false, ↓reduceIte, Nat.reduceAdd, Nat.reduceMul, Nat.reduceSub, Nat.reduceLT, Nat.reduceLeDiff, Nat.reduceEqDiff, Nat.reduceMod, Nat.reduceDiv, q_W hp, q_D hp, tc, tl, er, q_W pr, q_D pr, r0, r1]
          rw [← e3, c]
          simp (disch := omega) only [q_ckt, q_lt, q_cI, q_cJ, q_cV, q_cP, q_xI, q_xV, q_xP, q_xJ, g_gk, g_ga, g_gw, g_gp, g_gq, g_P, g_J, q_I_s, q_I_n, q_I_k, nI_add, pk_sub, pk_mul, nI_clamp, n_lt0, n_0lt, n_eq0, n_lt, n_le, n_eq, n_m1, n_m2, n_m9, n_12, n_19, n_10, n_01, n_1n1, n_0n1, n_1n0, n_0n0, n_dI, n_m1lt, q_inb, n_nar, n_nar0, n_nar1, n_bool, Bool.false_eq_true, Bool.true_eq_false, if_true, if_false, ↓reduceIte, Nat.reduceAdd, Nat.reduceMul, Nat.reduceSub, Nat.reduceLT, Nat.reduceLeDiff, Nat.reduceEqDiff, Nat.reduceMod, Nat.reduceDiv, e5, q_W p5, q_O p5, q_T p5, n_isb, c6]
        · rw [q_I_eq q6 (by decide)]; exact c4
        · rw [q_I_eq q6 (by decide)]; exact c5 3 (by decide)
        · rw [m6 x (by omega)]
          exact q5.1 x (fun w => by
            simp only [List.mem_cons, List.not_mem_nil, or_false] at w
            omega)
      · refine ⟨N3, [], ?_, q_eq.rf _ _, (fun x hx => absurd hx (List.not_mem_nil)), fun z => absurd z c, fun _ => rfl⟩
        rw [E_X11_well, if_neg nl, if_neg c]
        simp (disch := omega) only [q_ckt, q_lt, q_cI, q_cJ, q_cV, q_cP, q_xI, q_xV, q_xP, q_xJ, g_gk, g_ga, g_gw, g_gp, g_gq, g_P, g_J, q_I_s, q_I_n, q_I_k, nI_add, pk_sub, pk_mul, nI_clamp, n_lt0, n_0lt, n_eq0, n_lt, n_le, n_eq, n_m1, n_m2, n_m9, n_12, n_19, n_10, n_01, n_1n1, n_0n1, n_1n0, n_0n0, n_dI, n_m1lt, q_inb, n_nar, n_nar0, n_nar1, n_bool, Bool.false_eq_true, Bool.true_eq_false, if_true, if_false, ↓reduceIte, Nat.reduceAdd, Nat.reduceMul, Nat.reduceSub, Nat.reduceLT, Nat.reduceLeDiff, Nat.reduceEqDiff, Nat.reduceMod, Nat.reduceDiv, q_W hp, q_D hp, tc, tl, er, q_W pr, q_D pr, r0, r1, c]
        rw [← e3]
    obtain ⟨Mc, S, ec, qc, hS, kc, kf⟩ := key
    have pc := q_PI_eq qc p3
    obtain ⟨v, ev⟩ : ∃ v : Int32, v = if f = 0 then K' 0 else (-10 : Int32) - nI f := ⟨_, rfl⟩
    rw [← ev] at ec
    -- frames
    have fcM : ∀ x, x ≠ 1 → ¬ (3 ≤ x ∧ x ≤ 17) → ¬ (100 ≤ x ∧ x ≤ 114) → x ≠ 121 → Mc.1 x = M.1 x := fun x h1 h2 h3 h4 => by
      rw [qc.1 x (fun w => by have := hS x w; omega), q3.1 x (fun w => h1 (List.mem_singleton.mp w)), qr.1 x (fun w => by
        unfold c_fs at w
        simp only [List.mem_cons, List.not_mem_nil, or_false] at w
        omega), N01]
    have mc2 : Mc.2 = N0.2 := by rw [qc.2, q3.2, qr.2]
    obtain ⟨M1, e1⟩ : ∃ X, X = ir_sJ Mc 436 0 v.toInt64 := ⟨_, rfl⟩
    have sJ : q_st 0 Mc M1 := by rw [e1]; exact q_st_J pc
    have M11 : M1.1 = Mc.1 := by rw [e1]; rfl
    have I1 : ∀ x k, ir_I M1 x k = ir_I Mc x k := fun x k => congrFun (congrFun M11 x) k
    have gc : q_go 0 N0 Mc := ⟨pc, fun x hx => ⟨by
      rw [qc.1 x (fun w => by have := hS x w; omega), q3.1 x (fun w => by have := List.mem_singleton.mp w; omega), qr.1 x (fun w => by
        unfold c_fs at w
        simp only [List.mem_cons, List.not_mem_nil, or_false] at w
        omega)], by rw [mc2], by rw [mc2]⟩, by unfold ir_nc; rw [mc2]; exact Nat.le_refl _, by unfold ir_ns; rw [mc2]; exact Nat.le_refl _⟩
    have g1 : q_go 0 M M1 := (g0.tr gc).tr sJ.1
    have x1 := (q_Iv_X hI g1).2
    have h414 : ∀ k, ir_I M1 414 k = ir_I M 414 k := fun k => by rw [I1]; exact congrFun (fcM 414 (by decide) (by omega) (by omega) (by decide)) k
    have T1 : ir_I M1 414 = ir_I M 414 := funext h414
    obtain ⟨M2, e2, q2, z4, z6, z14, z15, zk, zf⟩ := r_wl (d := 200) (M := M1) (B := B) (n := n) (f := f) (p := p) (K' := K') (tp := tp) sJ.1.1 x1 t9 hn (by rw [I1]; exact (congrFun (fcM 412 (by decide) (by omega) (by omega) (by decide)) 6).trans tr) (fun k hk => ⟨(hB k hk).1, by rw [I1]; exact (congrFun (fcM 417 (by decide) (by omega) (by omega) (by decide)) k).trans (hB k hk).2.1⟩) (by decide) f4 (by rw [T1]; exact RR)
    have p2 := q_PI_eq q2 sJ.1.1
    have g2 : q_go 0 M1 M2 := ⟨p2, fun x hx => ⟨q2.1 x (fun w => by
        simp only [List.mem_cons, List.not_mem_nil, or_false] at w
        omega), by rw [q2.2], by rw [q2.2]⟩, by unfold ir_nc; rw [q2.2]; exact Nat.le_refl _, by unfold ir_ns; rw [q2.2]; exact Nat.le_refl _⟩
    have m2 : ∀ x, x ≠ 412 → x ≠ 413 → x ≠ 414 → M2.1 x = Mc.1 x := fun x h1 h2 h3 => by
      rw [q2.1 x (fun w => by
        simp only [List.mem_cons, List.not_mem_nil, or_false] at w
        omega), M11]
    have i2 : ∀ x k, x ≠ 412 → x ≠ 413 → x ≠ 414 → ir_I M2 x k = ir_I Mc x k := fun x k h1 h2 h3 => congrFun (m2 x h1 h2 h3) k
    have Mc1 : ∀ k, ir_I Mc 1 k = ir_I N3 1 k := fun k => q_I_eq qc (fun w => by have := hS 1 w; omega) k
    rw [← ev] at e2
    have I413 : ∀ k, ir_I M1 413 k = ir_I M 413 k := fun k => by rw [I1]; exact congrFun (fcM 413 (by decide) (by omega) (by omega) (by decide)) k
    refine ⟨nI 0, M1, v, M2, ?_, sJ.1.1, x1, e2, z4, fun _ => ?_, q_Iv_wl hI (g1.tr g2) (fun x h1 h2 h3 h4 h5 h6 h7 => (m2 x h5 h6 h7).trans (fcM x h1 h2 h3 h4)) (fun x hx => ?_) (by rw [i2 1 1 (by decide) (by decide) (by decide), Mc1]; exact n31) z6 (by rw [i2 1 2 (by decide) (by decide) (by decide), Mc1, n32, z14]) (by rw [i2 1 3 (by decide) (by decide) (by decide), Mc1, n33, z15, ew]) ?_ ?_⟩
    · rw [E_L_well 199, ec]
      simp (disch := omega) only [q_ckt, q_lt, q_cI, q_cJ, q_cV, q_cP, q_xI, q_xV, q_xP, q_xJ, g_gk, g_ga, g_gw, g_gp, g_gq, g_P, g_J, q_I_s, q_I_n, q_I_k, nI_add, pk_sub, pk_mul, nI_clamp, n_lt0, n_0lt, n_eq0, n_lt, n_le, n_eq, n_m1, n_m2, n_m9, n_12, n_19, n_10, n_01, n_1n1, n_0n1, n_1n0, n_0n0, n_dI, n_m1lt, q_inb, n_nar, n_nar0, n_nar1, n_bool, Bool.false_eq_true, Bool.true_eq_false, if_true, if_false, ↓reduceIte, Nat.reduceAdd, Nat.reduceMul, Nat.reduceSub, Nat.reduceLT, Nat.reduceLeDiff, Nat.reduceEqDiff, Nat.reduceMod, Nat.reduceDiv, q_W hp, q_bI1, q_R pc]
      rw [e1]
    · rw [show M2.2.1 436 0 = M1.2.1 436 0 by rw [q2.2], e1]
      show (if 436 = 436 then vp_updL (Mc.2.1 436) 0 v.toInt64 else Mc.2.1 436) 0 = v.toInt64
      rw [if_pos rfl]
      exact pk_uLs
    · rw [show M2.2.1 x = M1.2.1 x by rw [q2.2], e1]
      show (if x = 436 then vp_updL (Mc.2.1 436) 0 v.toInt64 else Mc.2.1 x) = M.2.1 x
      rw [if_neg hx, show Mc.2.1 x = N0.2.1 x by rw [mc2], N02]
    · by_cases c : f = 0
      · obtain ⟨c1, c2, c3, c4, c5, c6, c7⟩ := kc c
        obtain ⟨k1, k2⟩ := zk c
        have eK : M2.1 413 = k_ct0 K' := funext fun k => by
          show ir_I M2 413 k = _
          unfold k_ct0
          by_cases c8 : k < 1640
          · rw [if_pos c8]; exact k1 k c8
          · rw [if_neg c8, k2 k (by omega), I413]
            obtain ⟨-, -, -, r, -, -, -, hz⟩ := hI.2.2.2.2.1.1
            exact hz k (by omega)
        unfold c_I1
        rw [eK]
        have hF0 := k_FR_ct0 (hFR c)
        obtain ⟨u1, e, ue, u2, u3, u4⟩ := hI.2.2.2.2.1.2.2.2.2
        have nd : k_nd (k_ct0 K') = 0 := by unfold k_nd; rw [hF0.2.2.2.2.2.2.2.2.1.1]; rfl
        have s3 : ∀ x, 3 ≤ x → x ≤ 90 → ∀ k, ir_I M2 x k = ir_I Mc x k := fun x h1 h2 k => i2 x k (by omega) (by omega) (by omega)
        refine ⟨k_ct0_wf (hFR c), c_tdT_fr (fun j h1 h2 h3 => m2 _ (by omega) (by omega) (by omega)) c1, c_ap_fr (m2 _ (by decide) (by decide) (by decide)) c2, c_st_fr (fun j h1 => m2 _ (by omega) (by omega) (by omega)) c3, ?_, e, ue, ?_, fun i hi => ?_, fun x hx => ?_⟩
        · rw [s3 3 (by decide) (by decide), c4, hF0.2.2.2.2.2.2.2.2.1.1]; rfl
        · rw [s3 3 (by decide) (by decide), c5, q_I_eq q3 (by decide), q_I_eq qr (by decide)]
          exact (congrFun (congrFun N01 3) 3).trans u2
        · rw [nd] at hi; exact absurd hi (Nat.not_lt_zero _)
        · have : ir_I M2 (3 + 16 + 6 * x) 2 = ir_I M (3 + 16 + 6 * x) 2 := by
            rw [s3 _ (by omega) (by omega)]
            exact congrFun (fcM _ (by omega) (by omega) (by omega) (by omega)) 2
          rw [this]
          exact u4 x hx
      · have eN := kf c
        refine c_I1_fr (fun x hx => ?_) hI.2.2.2.2.1
        have l1 : (3 ≤ x ∧ x ≤ 90) ∨ x = 413 := by
          unfold q_l1 at hx
          simp only [Bool.or_eq_true, Bool.and_eq_true, Nat.beq_eq, Nat.ble_eq] at hx
          omega
        rcases l1 with w | w
        · rw [m2 x (by omega) (by omega) (by omega), eN, q3.1 x (fun y => by have := List.mem_singleton.mp y; omega), qr.1 x (fun y => by
            unfold c_fs at y
            simp only [List.mem_cons, List.not_mem_nil, or_false] at y
            omega), N01]
        · rw [w]
          exact funext fun k => ((zf c k).trans (I413 k))
    · by_cases c : f = 0
      · exact Or.inl (by rw [i2 121 0 (by decide) (by decide) (by decide)]; exact (kc c).2.2.2.2.2.2)
      · have eN := kf c
        refine c_I3_fr (fun x k hx => ?_) (funext fun k => ((zf c k).trans (I413 k))) hI.2.2.2.2.2.2
        have l3 : x = 121 ∨ x = 122 := by
          unfold q_l3 at hx
          simp only [Bool.or_eq_true, Bool.and_eq_true, Nat.beq_eq, Nat.ble_eq] at hx
          omega
        have : M2.1 x = M.1 x := by
          rw [m2 x (by omega) (by omega) (by omega), eN, q3.1 x (fun y => by have := List.mem_singleton.mp y; omega), qr.1 x (fun y => by
            unfold c_fs at y
            simp only [List.mem_cons, List.not_mem_nil, or_false] at y
            omega), N01]
        rw [this]
  · refine q_St_1 (x := m_X11_well 199 1 a) (fun M => E_L_well 199 1 a 436 M) (Or.inr ⟨3, 1, by decide, by decide, ?_, fun M => rfl, fun M' s => ?_⟩) hI
    · rw [E_X11_well]
      by_cases c : a < 0
      · rw [if_pos c]
      · rw [if_neg c, q_ck (q_k1 hp), tc, if_pos (Int32.lt_iff_toInt_lt.mpr (by
          rw [nI_toInt (by omega)]
          have : ¬ a.toInt < (0 : Int32).toInt := fun z => c (Int32.lt_iff_toInt_lt.mpr z)
          rw [show (0 : Int32).toInt = 0 by decide +kernel] at this
          omega))]
    · have h6 : ir_I M' 412 6 = nI tp := (s.2.2.1.1 412 6 rfl).trans tr
      have pN := (q_st_4 s.1.1 (k := 4) (v := nI 0) rfl).1.1
      have w := r_within (d := 198) (a := a.toInt64) (b := 0) (c := (nI tp).toInt64) (M := ir_sI M' 412 4 (nI 0))
      rw [Int32.toInt_toInt64, Int32.toInt_toInt64, nI_toInt (by omega), show (0 : Int64).toInt = 0 by decide +kernel, if_neg ha] at w
      refine ⟨nI 0, _, ?_, (q_st_4 s.1.1 (k := 4) (v := nI 0) rfl).tr (q_st_4 pN (k := 4) (v := nI 1) rfl), rfl, q_I_s⟩
      rw [E_X12_well 199]
      simp (disch := omega) only [q_ckt, q_lt, q_cI, q_cJ, q_cV, q_cP, q_xI, q_xV, q_xP, q_xJ, g_gk, g_ga, g_gw, g_gp, g_gq, g_P, g_J, q_I_s, q_I_n, q_I_k, nI_add, pk_sub, pk_mul, nI_clamp, n_lt0, n_0lt, n_eq0, n_lt, n_le, n_eq, n_m1, n_m2, n_m9, n_12, n_19, n_10, n_01, n_1n1, n_0n1, n_1n0, n_0n0, n_dI, n_m1lt, q_inb, n_nar, n_nar0, n_nar1, n_bool, Bool.false_eq_true, Bool.true_eq_false, if_true, if_false, ↓reduceIte, Nat.reduceAdd, Nat.reduceMul, Nat.reduceSub, Nat.reduceLT, Nat.reduceLeDiff, Nat.reduceEqDiff, Nat.reduceMod, Nat.reduceDiv, q_R s.1.1, h6, w, r_fails pN]
end SW
