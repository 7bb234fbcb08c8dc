section QL2
variable {L : Nat} {xs : Nat → Int32} {I : Nat → ir_M → Prop}
theorem q_c26 (hL : L ≤ 3072) (HI : ∀ j M, I j M → q_PI M ∧ q_X L xs M) {i j : Nat} {M : ir_M} (h6 : i + 6 ≤ L) (hI : I j M) (S : ∀ a1 a2 : Int32, (a2 = 0 ∨ a2 = 1) → q_St L xs I (m_L_kindest 200 1 a1 a2 436) (m_X12_kindest 200 412 a1 a2)) : ∃ M2, I (j + 1) M2 ∧ (ir_ck (ir_ga M 2000000 100 ((nI i) + (1 : Int32))) (ir_ck (ir_ga M 2000000 100 ((nI i) + (2 : Int32))) (if (ir_I M 2000000 ((nI i) + (2 : Int32)).toNatClampNeg) = 0 then v_L_law_1650 200 2000000 1 412 436 (nI i) 1 (ir_I M 2000000 ((nI i) + (1 : Int32)).toNatClampNeg) (0 : Int32) M else v_L_law_1650 200 2000000 1 412 436 (nI i) 1 (ir_I M 2000000 ((nI i) + (1 : Int32)).toNatClampNeg) (1 : Int32) M))) = v_L_law_23 200 2000000 1 412 436 (nI (i + 6)) M2 := by
  obtain ⟨p0, x0⟩ := HI j M hI
  have c1 : (nI (i + 1)).toNatClampNeg = i + 1 := nI_clamp (by omega)
  have c2 : (nI (i + 2)).toNatClampNeg = i + 2 := nI_clamp (by omega)
  have key : ∀ a2 : Int32, (a2 = 0 ∨ a2 = 1) → (∀ M1, q_X L xs M1 → (if (ir_I M1 2000000 (i + 2)) = 0 then (0 : Int32) else 1) = a2) → ∃ M2, I (j + 1) M2 ∧ v_L_law_1650 200 2000000 1 412 436 (nI i) 1 (xs (i + 1)) a2 M = v_L_law_23 200 2000000 1 412 436 (nI (i + 6)) M2 := by
    intro a2 ha h9
    obtain ⟨k, M1, b, M2, f1, p1, x1, f2, t2, v2, h2⟩ := S (xs (i + 1)) a2 ha j M hI
    obtain ⟨p2, x2⟩ := HI _ M2 h2
    refine ⟨M2, h2, ?_⟩
    have fin : v_L_law_1677 200 2000000 1 412 436 (nI i) k 412 (xs (i + 1)) a2 M1 = v_L_law_23 200 2000000 1 412 436 (nI (i + 6)) M2 := by
      rw [l_L_law_1677, q_ck (q_k412 p1), f2, q_cI, q_ck (q_k412 p2), q_thr p2 t2, q_cI, if_pos rfl, q_pl6]
      by_cases hk : k = 0
      · rw [if_pos hk, q_ck (q_out p2), show (0 : Int32).toNatClampNeg = 0 by decide +kernel, show ir_J M2 436 0 = b.toInt64 from v2 hk, q_cmp, if_pos rfl]
      · rw [if_neg hk]
    have h8 := h9 M1 x1
    rw [l_L_law_1650, f1, q_cI, q_pl1, q_pl2, c1, c2, q_ck (q_X_g hL x1 (show i + 1 < L by omega)), q_ck (q_X_g hL x1 (show i + 2 < L by omega)), q_X_s x1 (i + 1)]
    by_cases hq : ir_I M1 2000000 (i + 2) = 0
    · rw [if_pos hq] at h8 ⊢
      rw [h8]
      exact fin
    · rw [if_neg hq] at h8 ⊢
      rw [h8]
      exact fin
  rw [q_pl1, q_pl2, c1, c2, q_ck (q_X_g hL x0 (show i + 1 < L by omega)), q_ck (q_X_g hL x0 (show i + 2 < L by omega)), q_X_s x0 (i + 1), q_X_s x0 (i + 2)]
  by_cases hq : xs (i + 2) = 0
  · rw [if_pos hq]
    exact key 0 (Or.inl rfl) (fun M1 x1 => by rw [q_X_s x1, if_pos hq])
  · rw [if_neg hq]
    exact key 1 (Or.inr rfl) (fun M1 x1 => by rw [q_X_s x1, if_neg hq])
theorem q_end {M : ir_M} {i : Nat} (hL : L ≤ 3072) (hi : i < 10000) : (Int32.ofNat L - (6 : Int32) < nI i) ↔ L < i + 6 := by
  rw [show Int32.ofNat L - (6 : Int32) = nI L - nI 6 from rfl, Int32.lt_iff_toInt_lt, pk_sub_toInt (by omega) (by omega), nI_toInt (by omega)]
  omega
set_option maxHeartbeats 4000000 in
theorem q_loop (hL : L ≤ 3072) (HI : ∀ j M, I j M → q_PI M ∧ q_X L xs M) (S0 : ∀ a1 a2 a3 a4 a5 : Int32, q_Sp L xs I (m_X11_feed 200 1 a1 a2 a3 a4 a5) (m_X12_feed 200 412 a1 a2 a3 a4 a5)) (S1 : ∀ a1 : Int32, q_St L xs I (m_L_well 200 1 a1 436) (m_X12_well 200 412 a1)) (S2 : ∀ a1 : Int32, q_Sp L xs I (m_X11_fault 200 1 a1) (m_X12_fault 200 412 a1)) (S3 : ∀ a1 a2 : Int32, q_St L xs I (m_L_person 200 1 a1 a2 436) (m_X12_person 200 412 a1 a2)) (S4 : ∀ a1 a2 : Int32, q_St L xs I (m_L_worth 200 1 a1 a2 436) (m_X12_worth 200 412 a1 a2)) (S5 : ∀ a1 a2 : Int32, q_St L xs I (m_L_likes 200 1 a1 a2 436) (m_X12_likes 200 412 a1 a2)) (S6 : ∀ a1 : Int32, q_St L xs I (m_L_at 200 1 a1 436) (m_X12_at 200 412 a1)) (S7 : ∀ a1 a2 : Int32, q_Sb L xs I (m_L_allowed 200 1 a1 a2 436) (m_X12_allowed 200 412 a1 a2)) (S8 : q_Sp L xs I (m_X11_today 200 1) (m_X12_today 200 412)) (S9 : ∀ a1 : Int32, q_St L xs I (m_L_liking 200 1 a1 436) (m_X12_liking 200 412 a1)) (S10 : ∀ a1 a2 : Int32, q_St L xs I (m_L_ask 200 1 a1 a2 436) (m_X12_ask 200 412 a1 a2)) (S11 : ∀ a1 : Int32, q_St L xs I (m_L_days 200 1 a1 436) (m_X12_days 200 412 a1)) (S12 : ∀ a1 : Int32, q_St L xs I (m_L_leave 200 1 a1 436) (m_X12_leave 200 412 a1)) (S13 : ∀ a1 : Int32, q_St L xs I (m_L_join 200 1 a1 436) (m_X12_join 200 412 a1)) (S14 : ∀ a1 a2 : Int32, q_St L xs I (m_L_move 200 1 a1 a2 436) (m_X12_move 200 412 a1 a2)) (S15 : ∀ a1 : Int32, q_St L xs I (m_L_trade 200 1 a1 436) (m_X12_trade 200 412 a1)) (S16 : q_Sp L xs I (m_X11_trades 200 1) (m_X12_trades 200 412)) (S17 : ∀ a1 a2 : Int32, q_St L xs I (m_L_auction 200 1 a1 a2 436) (m_X12_auction 200 412 a1 a2)) (S18 : q_Sp L xs I (m_X11_ring 200 1) (m_X12_ring 200 412)) (S19 : ∀ a1 : Int32, q_St L xs I (m_L_undo 200 1 a1 436) (m_X12_undo 200 412 a1)) (S20 : ∀ a1 a2 : Int32, q_St L xs I (m_L_judge 200 1 a1 a2 436) (m_X12_judge 200 412 a1 a2)) (S21 : ∀ a1 : Int32, q_St L xs I (m_L_perform 200 1 a1 436) (m_X12_perform 200 412 a1)) (S22 : ∀ a1 a2 : Int32, q_St L xs I (m_L_season 200 1 a1 a2 436) (m_X12_season 200 412 a1 a2)) (S23 : ∀ a1 : Int32, q_St L xs I (m_L_best 200 1 a1 436) (m_X12_best 200 412 a1)) (S24 : ∀ a1 : Int32, q_Sp L xs I (m_X11_orders 200 1 a1) (m_X12_orders 200 412 a1)) (S25 : q_St L xs I (m_L_standBest 200 1 436) (m_X12_standBest 200 412)) (S26 : ∀ a1 a2 : Int32, (a2 = 0 ∨ a2 = 1) → q_St L xs I (m_L_kindest 200 1 a1 a2 436) (m_X12_kindest 200 412 a1 a2)) (S27 : ∀ a1 : Int32, q_St L xs I (m_L_settles 200 1 a1 436) (m_X12_settles 200 412 a1)) (S28 : ∀ a1 a2 a3 : Int32, q_St L xs I (m_L_plot 200 1 a1 a2 a3 436) (m_X12_plot 200 412 a1 a2 a3)) (S29 : ∀ a1 a2 : Int32, q_St L xs I (m_L_promise 200 1 a1 a2 436) (m_X12_promise 200 412 a1 a2)) (S30 : ∀ a1 a2 : Int32, q_St L xs I (m_L_guard 200 1 a1 a2 436) (m_X12_guard 200 412 a1 a2)) (S31 : ∀ a1 a2 : Int32, q_St L xs I (m_L_price 200 1 a1 a2 436) (m_X12_price 200 412 a1 a2)) (S32 : ∀ a1 : Int32, q_St L xs I (m_L_bestPlace 200 1 a1 436) (m_X12_bestPlace 200 412 a1)) (S33 : ∀ a1 : Int32, q_St L xs I (m_L_worthOf 200 1 a1 436) (m_X12_worthOf 200 412 a1)) (S34 : ∀ a1 : Int32, q_St L xs I (m_L_share 200 1 a1 436) (m_X12_share 200 412 a1)) (S35 : ∀ a1 : Int32, q_St L xs I (m_L_ruined 200 1 a1 436) (m_X12_ruined 200 412 a1)) (S36 : q_Sp L xs I (m_X11_firstRuined 200 1) (m_X12_firstRuined 200 412)) (S37 : ∀ a1 : Int32, q_St L xs I (m_L_by 200 1 a1 436) (m_X12_by 200 412 a1)) (S38 : q_Sp L xs I (m_X11_bestWay 200 1) (m_X12_bestWay 200 412)) (S39 : ∀ a1 : Int32, q_Sj L xs I (m_L_secrets 200 1 a1 436) (m_X12_secrets 200 412 a1)) (S40 : ∀ a1 a2 : Int32, q_St L xs I (m_L_sure 200 1 a1 a2 436) (m_X12_sure 200 412 a1 a2)) (S41 : ∀ a1 a2 a3 : Int32, q_Sv L xs I (m_L_tray 200 1 a1 a2 a3) (m_X12_tray 200 412 a1 a2 a3)) (S42 : ∀ (a1 a2 : Int32) (v : Int64), q_Sj L xs I (m_L_write 200 1 a1 a2 v 436) (m_X12_write 200 412 a1 a2 v)) (S43 : ∀ a1 : Int32, q_St L xs I (m_L_pour 200 1 a1 436) (m_X12_pour 200 412 a1)) (S44 : ∀ a1 : Int32, q_Sv L xs I (m_L_image 200 1 a1) (m_X12_image 200 412 a1)) (S45 : ∀ a1 : Int32, q_Sv L xs I (m_L_restore 200 1 a1) (m_X12_restore 200 412 a1)) (S46 : ∀ a1 : Int32, q_Sp L xs I (m_X11_count 200 1 a1) (m_X12_count 200 412 a1)) : ∀ (k i j : Nat) (M : ir_M), i ≤ L → L < i + 6 * k + 6 → I j M → ∃ j' M', j' ≤ j + k ∧ I j' M' ∧ v_L_law_23 200 2000000 1 412 436 (nI i) M = ir_oI 1 M' := by
  have gl : ∀ M : ir_M, ir_gl M 2000000 = true := by
    intro M
    unfold ir_gl
    rw [show Nat.ble 100 (ir_kd 2000000) = true by decide +kernel, show Nat.ble 1000000 2000000 = true by decide]
    cases Nat.blt 2000000 (ir_nx M) <;> rfl
  intro k
  induction k with
  | zero =>
    intro i j M hi hk hI
    obtain ⟨p0, x0⟩ := HI j M hI
    refine ⟨j, M, by omega, hI, ?_⟩
    rw [l_L_law_23, q_ck (gl M), q_X_len hL x0, if_pos ((q_end (M := M) hL (by omega)).mpr (by omega)), q_ck (by rfl)]
  | succ k ih =>
    intro i j M hi hk hI
    obtain ⟨p0, x0⟩ := HI j M hI
    rw [l_L_law_23, q_ck (gl M), q_X_len hL x0]
    by_cases he : L < i + 6
    · refine ⟨j, M, by omega, hI, ?_⟩
      rw [if_pos ((q_end (M := M) hL (by omega)).mpr he), q_ck (by rfl)]
    · rw [if_neg (fun q => he ((q_end (M := M) hL (by omega)).mp q)), q_ck (q_X_g hL x0 (show i < L by omega))]
      have h6 : i + 6 ≤ L := by omega
      have fin : ∀ M2, I (j + 1) M2 → ∃ j' M', j' ≤ j + (k + 1) ∧ I j' M' ∧ v_L_law_23 200 2000000 1 412 436 (nI (i + 6)) M2 = ir_oI 1 M' := by
        intro M2 h2
        obtain ⟨j', M', h3, h4, h5⟩ := ih (i + 6) (j + 1) M2 h6 (by omega) h2
        exact ⟨j', M', by omega, h4, h5⟩
      by_cases c0 : (ir_I M 2000000 (nI i).toNatClampNeg &&& (63 : Int32)) = (0 : Int32)
      · rw [if_pos c0]
        obtain ⟨M2, h2, e2⟩ := q_c0 hL HI h6 hI S0
        rw [e2]
        exact fin M2 h2
      rw [if_neg c0]
      by_cases c1 : (ir_I M 2000000 (nI i).toNatClampNeg &&& (63 : Int32)) = (1 : Int32)
      · rw [if_pos c1]
        obtain ⟨M2, h2, e2⟩ := q_c1 hL HI h6 hI S1
        rw [e2]
        exact fin M2 h2
      rw [if_neg c1]
      by_cases c2 : (ir_I M 2000000 (nI i).toNatClampNeg &&& (63 : Int32)) = (2 : Int32)
      · rw [if_pos c2]
        obtain ⟨M2, h2, e2⟩ := q_c2 hL HI h6 hI S2
        rw [e2]
        exact fin M2 h2
      rw [if_neg c2]
      by_cases c3 : (ir_I M 2000000 (nI i).toNatClampNeg &&& (63 : Int32)) = (3 : Int32)
      · rw [if_pos c3]
        obtain ⟨M2, h2, e2⟩ := q_c3 hL HI h6 hI S3
        rw [e2]
        exact fin M2 h2
      rw [if_neg c3]
      by_cases c4 : (ir_I M 2000000 (nI i).toNatClampNeg &&& (63 : Int32)) = (4 : Int32)
      · rw [if_pos c4]
        obtain ⟨M2, h2, e2⟩ := q_c4 hL HI h6 hI S4
        rw [e2]
        exact fin M2 h2
      rw [if_neg c4]
      by_cases c5 : (ir_I M 2000000 (nI i).toNatClampNeg &&& (63 : Int32)) = (5 : Int32)
      · rw [if_pos c5]
        obtain ⟨M2, h2, e2⟩ := q_c5 hL HI h6 hI S5
        rw [e2]
        exact fin M2 h2
      rw [if_neg c5]
      by_cases c6 : (ir_I M 2000000 (nI i).toNatClampNeg &&& (63 : Int32)) = (6 : Int32)
      · rw [if_pos c6]
        obtain ⟨M2, h2, e2⟩ := q_c6 hL HI h6 hI S6
        rw [e2]
        exact fin M2 h2
      rw [if_neg c6]
      by_cases c7 : (ir_I M 2000000 (nI i).toNatClampNeg &&& (63 : Int32)) = (7 : Int32)
      · rw [if_pos c7]
        obtain ⟨M2, h2, e2⟩ := q_c7 hL HI h6 hI S7
        rw [e2]
        exact fin M2 h2
      rw [if_neg c7]
      by_cases c8 : (ir_I M 2000000 (nI i).toNatClampNeg &&& (63 : Int32)) = (8 : Int32)
      · rw [if_pos c8]
        obtain ⟨M2, h2, e2⟩ := q_c8 hL HI h6 hI S8
        rw [e2]
        exact fin M2 h2
      rw [if_neg c8]
      by_cases c9 : (ir_I M 2000000 (nI i).toNatClampNeg &&& (63 : Int32)) = (9 : Int32)
      · rw [if_pos c9]
        obtain ⟨M2, h2, e2⟩ := q_c9 hL HI h6 hI S9
        rw [e2]
        exact fin M2 h2
      rw [if_neg c9]
      by_cases c10 : (ir_I M 2000000 (nI i).toNatClampNeg &&& (63 : Int32)) = (10 : Int32)
      · rw [if_pos c10]
        obtain ⟨M2, h2, e2⟩ := q_c10 hL HI h6 hI S10
        rw [e2]
        exact fin M2 h2
      rw [if_neg c10]
      by_cases c11 : (ir_I M 2000000 (nI i).toNatClampNeg &&& (63 : Int32)) = (11 : Int32)
      · rw [if_pos c11]
        obtain ⟨M2, h2, e2⟩ := q_c11 hL HI h6 hI S11
        rw [e2]
        exact fin M2 h2
      rw [if_neg c11]
      by_cases c12 : (ir_I M 2000000 (nI i).toNatClampNeg &&& (63 : Int32)) = (12 : Int32)
      · rw [if_pos c12]
        obtain ⟨M2, h2, e2⟩ := q_c12 hL HI h6 hI S12
        rw [e2]
        exact fin M2 h2
      rw [if_neg c12]
      by_cases c13 : (ir_I M 2000000 (nI i).toNatClampNeg &&& (63 : Int32)) = (13 : Int32)
      · rw [if_pos c13]
        obtain ⟨M2, h2, e2⟩ := q_c13 hL HI h6 hI S13
        rw [e2]
        exact fin M2 h2
      rw [if_neg c13]
      by_cases c14 : (ir_I M 2000000 (nI i).toNatClampNeg &&& (63 : Int32)) = (14 : Int32)
      · rw [if_pos c14]
        obtain ⟨M2, h2, e2⟩ := q_c14 hL HI h6 hI S14
        rw [e2]
        exact fin M2 h2
      rw [if_neg c14]
      by_cases c15 : (ir_I M 2000000 (nI i).toNatClampNeg &&& (63 : Int32)) = (15 : Int32)
      · rw [if_pos c15]
        obtain ⟨M2, h2, e2⟩ := q_c15 hL HI h6 hI S15
        rw [e2]
        exact fin M2 h2
      rw [if_neg c15]
      by_cases c16 : (ir_I M 2000000 (nI i).toNatClampNeg &&& (63 : Int32)) = (16 : Int32)
      · rw [if_pos c16]
        obtain ⟨M2, h2, e2⟩ := q_c16 hL HI h6 hI S16
        rw [e2]
        exact fin M2 h2
      rw [if_neg c16]
      by_cases c17 : (ir_I M 2000000 (nI i).toNatClampNeg &&& (63 : Int32)) = (17 : Int32)
      · rw [if_pos c17]
        obtain ⟨M2, h2, e2⟩ := q_c17 hL HI h6 hI S17
        rw [e2]
        exact fin M2 h2
      rw [if_neg c17]
      by_cases c18 : (ir_I M 2000000 (nI i).toNatClampNeg &&& (63 : Int32)) = (18 : Int32)
      · rw [if_pos c18]
        obtain ⟨M2, h2, e2⟩ := q_c18 hL HI h6 hI S18
        rw [e2]
        exact fin M2 h2
      rw [if_neg c18]
      by_cases c19 : (ir_I M 2000000 (nI i).toNatClampNeg &&& (63 : Int32)) = (19 : Int32)
      · rw [if_pos c19]
        obtain ⟨M2, h2, e2⟩ := q_c19 hL HI h6 hI S19
        rw [e2]
        exact fin M2 h2
      rw [if_neg c19]
      by_cases c20 : (ir_I M 2000000 (nI i).toNatClampNeg &&& (63 : Int32)) = (20 : Int32)
      · rw [if_pos c20]
        obtain ⟨M2, h2, e2⟩ := q_c20 hL HI h6 hI S20
        rw [e2]
        exact fin M2 h2
      rw [if_neg c20]
      by_cases c21 : (ir_I M 2000000 (nI i).toNatClampNeg &&& (63 : Int32)) = (21 : Int32)
      · rw [if_pos c21]
        obtain ⟨M2, h2, e2⟩ := q_c21 hL HI h6 hI S21
        rw [e2]
        exact fin M2 h2
      rw [if_neg c21]
      by_cases c22 : (ir_I M 2000000 (nI i).toNatClampNeg &&& (63 : Int32)) = (22 : Int32)
      · rw [if_pos c22]
        obtain ⟨M2, h2, e2⟩ := q_c22 hL HI h6 hI S22
        rw [e2]
        exact fin M2 h2
      rw [if_neg c22]
      by_cases c23 : (ir_I M 2000000 (nI i).toNatClampNeg &&& (63 : Int32)) = (23 : Int32)
      · rw [if_pos c23]
        obtain ⟨M2, h2, e2⟩ := q_c23 hL HI h6 hI S23
        rw [e2]
        exact fin M2 h2
      rw [if_neg c23]
      by_cases c24 : (ir_I M 2000000 (nI i).toNatClampNeg &&& (63 : Int32)) = (24 : Int32)
      · rw [if_pos c24]
        obtain ⟨M2, h2, e2⟩ := q_c24 hL HI h6 hI S24
        rw [e2]
        exact fin M2 h2
      rw [if_neg c24]
      by_cases c25 : (ir_I M 2000000 (nI i).toNatClampNeg &&& (63 : Int32)) = (25 : Int32)
      · rw [if_pos c25]
        obtain ⟨M2, h2, e2⟩ := q_c25 hL HI h6 hI S25
        rw [e2]
        exact fin M2 h2
      rw [if_neg c25]
      by_cases c26 : (ir_I M 2000000 (nI i).toNatClampNeg &&& (63 : Int32)) = (26 : Int32)
      · rw [if_pos c26]
        obtain ⟨M2, h2, e2⟩ := q_c26 hL HI h6 hI S26
        rw [e2]
        exact fin M2 h2
      rw [if_neg c26]
      by_cases c27 : (ir_I M 2000000 (nI i).toNatClampNeg &&& (63 : Int32)) = (27 : Int32)
      · rw [if_pos c27]
        obtain ⟨M2, h2, e2⟩ := q_c27 hL HI h6 hI S27
        rw [e2]
        exact fin M2 h2
      rw [if_neg c27]
      by_cases c28 : (ir_I M 2000000 (nI i).toNatClampNeg &&& (63 : Int32)) = (28 : Int32)
      · rw [if_pos c28]
        obtain ⟨M2, h2, e2⟩ := q_c28 hL HI h6 hI S28
        rw [e2]
        exact fin M2 h2
      rw [if_neg c28]
      by_cases c29 : (ir_I M 2000000 (nI i).toNatClampNeg &&& (63 : Int32)) = (29 : Int32)
      · rw [if_pos c29]
        obtain ⟨M2, h2, e2⟩ := q_c29 hL HI h6 hI S29
        rw [e2]
        exact fin M2 h2
      rw [if_neg c29]
      by_cases c30 : (ir_I M 2000000 (nI i).toNatClampNeg &&& (63 : Int32)) = (30 : Int32)
      · rw [if_pos c30]
        obtain ⟨M2, h2, e2⟩ := q_c30 hL HI h6 hI S30
        rw [e2]
        exact fin M2 h2
      rw [if_neg c30]
      by_cases c31 : (ir_I M 2000000 (nI i).toNatClampNeg &&& (63 : Int32)) = (31 : Int32)
      · rw [if_pos c31]
        obtain ⟨M2, h2, e2⟩ := q_c31 hL HI h6 hI S31
        rw [e2]
        exact fin M2 h2
      rw [if_neg c31]
      by_cases c32 : (ir_I M 2000000 (nI i).toNatClampNeg &&& (63 : Int32)) = (32 : Int32)
      · rw [if_pos c32]
        obtain ⟨M2, h2, e2⟩ := q_c32 hL HI h6 hI S32
        rw [e2]
        exact fin M2 h2
      rw [if_neg c32]
      by_cases c33 : (ir_I M 2000000 (nI i).toNatClampNeg &&& (63 : Int32)) = (33 : Int32)
      · rw [if_pos c33]
        obtain ⟨M2, h2, e2⟩ := q_c33 hL HI h6 hI S33
        rw [e2]
        exact fin M2 h2
      rw [if_neg c33]
      by_cases c34 : (ir_I M 2000000 (nI i).toNatClampNeg &&& (63 : Int32)) = (34 : Int32)
      · rw [if_pos c34]
        obtain ⟨M2, h2, e2⟩ := q_c34 hL HI h6 hI S34
        rw [e2]
        exact fin M2 h2
      rw [if_neg c34]
      by_cases c35 : (ir_I M 2000000 (nI i).toNatClampNeg &&& (63 : Int32)) = (35 : Int32)
      · rw [if_pos c35]
        obtain ⟨M2, h2, e2⟩ := q_c35 hL HI h6 hI S35
        rw [e2]
        exact fin M2 h2
      rw [if_neg c35]
      by_cases c36 : (ir_I M 2000000 (nI i).toNatClampNeg &&& (63 : Int32)) = (36 : Int32)
      · rw [if_pos c36]
        obtain ⟨M2, h2, e2⟩ := q_c36 hL HI h6 hI S36
        rw [e2]
        exact fin M2 h2
      rw [if_neg c36]
      by_cases c37 : (ir_I M 2000000 (nI i).toNatClampNeg &&& (63 : Int32)) = (37 : Int32)
      · rw [if_pos c37]
        obtain ⟨M2, h2, e2⟩ := q_c37 hL HI h6 hI S37
        rw [e2]
        exact fin M2 h2
      rw [if_neg c37]
      by_cases c38 : (ir_I M 2000000 (nI i).toNatClampNeg &&& (63 : Int32)) = (38 : Int32)
      · rw [if_pos c38]
        obtain ⟨M2, h2, e2⟩ := q_c38 hL HI h6 hI S38
        rw [e2]
        exact fin M2 h2
      rw [if_neg c38]
      by_cases c39 : (ir_I M 2000000 (nI i).toNatClampNeg &&& (63 : Int32)) = (39 : Int32)
      · rw [if_pos c39]
        obtain ⟨M2, h2, e2⟩ := q_c39 hL HI h6 hI S39
        rw [e2]
        exact fin M2 h2
      rw [if_neg c39]
      by_cases c40 : (ir_I M 2000000 (nI i).toNatClampNeg &&& (63 : Int32)) = (40 : Int32)
      · rw [if_pos c40]
        obtain ⟨M2, h2, e2⟩ := q_c40 hL HI h6 hI S40
        rw [e2]
        exact fin M2 h2
      rw [if_neg c40]
      by_cases c41 : (ir_I M 2000000 (nI i).toNatClampNeg &&& (63 : Int32)) = (41 : Int32)
      · rw [if_pos c41]
        obtain ⟨M2, h2, e2⟩ := q_c41 hL HI h6 hI S41
        rw [e2]
        exact fin M2 h2
      rw [if_neg c41]
      by_cases c42 : (ir_I M 2000000 (nI i).toNatClampNeg &&& (63 : Int32)) = (42 : Int32)
      · rw [if_pos c42]
        obtain ⟨M2, h2, e2⟩ := q_c42 hL HI h6 hI S42
        rw [e2]
        exact fin M2 h2
      rw [if_neg c42]
      by_cases c43 : (ir_I M 2000000 (nI i).toNatClampNeg &&& (63 : Int32)) = (43 : Int32)
      · rw [if_pos c43]
        obtain ⟨M2, h2, e2⟩ := q_c43 hL HI h6 hI S43
        rw [e2]
        exact fin M2 h2
      rw [if_neg c43]
      by_cases c44 : (ir_I M 2000000 (nI i).toNatClampNeg &&& (63 : Int32)) = (44 : Int32)
      · rw [if_pos c44]
        obtain ⟨M2, h2, e2⟩ := q_c44 hL HI h6 hI S44
        rw [e2]
        exact fin M2 h2
      rw [if_neg c44]
      by_cases c45 : (ir_I M 2000000 (nI i).toNatClampNeg &&& (63 : Int32)) = (45 : Int32)
      · rw [if_pos c45]
        obtain ⟨M2, h2, e2⟩ := q_c45 hL HI h6 hI S45
        rw [e2]
        exact fin M2 h2
      rw [if_neg c45]
      by_cases c46 : (ir_I M 2000000 (nI i).toNatClampNeg &&& (63 : Int32)) = (46 : Int32)
      · rw [if_pos c46]
        obtain ⟨M2, h2, e2⟩ := q_c46 hL HI h6 hI S46
        rw [e2]
        exact fin M2 h2
      rw [if_neg c46]
      rw [q_pl6]
      obtain ⟨j', M', h3, h4, h5⟩ := ih (i + 6) j M h6 (by omega) hI
      exact ⟨j', M', by omega, h4, h5⟩
end QL2
