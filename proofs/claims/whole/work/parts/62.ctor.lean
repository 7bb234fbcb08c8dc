def q_tx : List Nat := [103, 111, 111, 100, 115, 32, 112, 101, 114, 115, 111, 110, 32, 97, 115, 107, 115, 32, 97, 112, 97, 114, 116, 32, 108, 105, 107, 101, 115, 32, 98, 101, 104, 105, 110, 100, 32, 109, 105, 100, 100, 108, 101, 32, 114, 105, 110, 103, 32, 110, 105, 103, 104, 116, 32, 114, 117, 105, 110, 32, 108, 97, 119, 32, 110, 111, 116, 32, 97, 110, 100, 32, 111, 114, 32, 103, 111, 111, 100, 32, 119, 111, 114, 116, 104, 32, 97, 103, 101, 32, 103, 111, 108, 100, 32, 112, 108, 97, 99, 101, 32, 111, 116, 104, 101, 114, 115, 32, 116, 111, 116, 97, 108, 32, 100, 97, 121, 32]
theorem q_cI {v : Int32} {M : ir_M} {k : Int32 → ir_M → ir_R} : ir_cI (ir_oI v M) k = k v M := rfl
theorem q_cJ {v : Int64} {M : ir_M} {k : Int64 → ir_M → ir_R} : ir_cJ (ir_oJ v M) k = k v M := rfl
theorem q_cP {v : Nat} {M : ir_M} {k : Nat → ir_M → ir_R} : ir_cP (ir_oP v M) k = k v M := rfl
theorem q_cV {M : ir_M} {k : ir_M → ir_R} : ir_cV (ir_oV M) k = k M := rfl
/-- what lies at 1000000 and above -/
def q_X (L : Nat) (xs : Nat → Int32) (M : ir_M) : Prop := ∀ a, 1000000 ≤ a → M.1 a = (ir_X L xs).1 a ∧ M.2.1 a = (ir_X L xs).2.1 a ∧ M.2.2.1 a = (ir_X L xs).2.2.1 a
def q_own : List (Nat × Nat × Nat × Nat) → Bool
  | [] => true
  | (_, a, _) :: l => Nat.blt a 1000000 && q_own l
theorem q_X_run {L : Nat} {xs : Nat → Int32} : ∀ (l : List (Nat × Nat × Nat × Nat)) (M : ir_M), q_own l = true → q_X L xs M → q_X L xs (q_run l M)
  | [], _, _, h => h
  | (0, a, k, v) :: l, M, ho, h => q_X_run l (ir_al M k) (ir_and ho).2 h
  | (1, a, k, v) :: l, M, ho, h => by
    refine q_X_run l (ir_sP M a k v) (ir_and ho).2 (fun x hx => ⟨(h x hx).1, (h x hx).2.1, ?_⟩)
    have := ir_blt (ir_and ho).1
    rw [show (ir_sP M a k v).2.2.1 x = M.2.2.1 x from if_neg (by omega)]
    exact (h x hx).2.2
  | (_ + 2, a, k, v) :: l, M, ho, h => by
    refine q_X_run l (ir_sI M a k (nI v)) (ir_and ho).2 (fun x hx => ⟨?_, (h x hx).2.1, (h x hx).2.2⟩)
    have := ir_blt (ir_and ho).1
    rw [show (ir_sI M a k (nI v)).1 x = M.1 x from if_neg (by omega)]
    exact (h x hx).1
theorem q_tx_b : ∀ j, j < 118 → (ir_byt 0).getD j 0 = nI (q_tx.getD j 0) := by decide +kernel
theorem q_tx_c : ∀ j, j < 118 → vp_nar .char (((nI (q_tx.getD j 0) &&& (255 : Int32)).toUInt32 % 65536).toInt32) = nI (q_tx.getD j 0) := by decide +kernel
section QX
variable {L : Nat} {xs : Nat → Int32} {M : ir_M}
theorem q_X_b (h : q_X L xs M) {j : Nat} (hj : j < 118) : ir_I M 1100000 j = nI (q_tx.getD j 0) := by
  show M.1 1100000 j = _
  rw [(h 1100000 (by decide)).1]
  exact q_tx_b j hj
theorem q_X_l (h : q_X L xs M) : ir_ln M 1100000 = 118 := by
  rw [ir_ln_ext (by decide), (h 1100000 (by decide)).2.1]
  show (Int64.ofNat (ir_byt 0).length).toInt.toNat = 118
  decide +kernel
theorem q_X_c (h : q_X L xs M) : ir_I M 1000000 1 = 0 := by
  show M.1 1000000 1 = _
  rw [(h 1000000 (by decide)).1]
  rfl
theorem q_X_p (h : q_X L xs M) : ir_P M 1000000 0 = 1100000 := by
  show M.2.2.1 1000000 0 = _
  rw [(h 1000000 (by decide)).2.2]
  rfl
theorem q_k_str : ir_gk M 1000000 50 = true := by
  unfold ir_gk
  rw [show Nat.beq (ir_kd 1000000) 50 = true by decide +kernel, show Nat.ble 1000000 1000000 = true by decide]
  cases Nat.blt 1000000 (ir_nx M) <;> rfl
theorem q_k_byt : ir_gk M 1100000 102 = true := by
  unfold ir_gk
  rw [show Nat.beq (ir_kd 1100000) 102 = true by decide +kernel, show Nat.ble 1000000 1100000 = true by decide]
  cases Nat.blt 1100000 (ir_nx M) <;> rfl
end QX
def q_ch (a : Nat) : Nat → Nat → List (Nat × Nat × Nat × Nat)
  | _, 0 => []
  | i, k + 1 => (2, a, i, q_tx.getD i 0) :: q_ch a (i + 1) k
theorem q_inf {L : Nat} {xs : Nat → Int32} {d a : Nat} (hk : q_kA a 104 118 = true) : ∀ (k i : Nat) (M : ir_M), i + k = 118 → a < ir_nx M → q_X L xs M → v_J1_inflate_03870_3 d 1100000 (nI i) a (nI i) (nI 118) (nI i) M = ir_oV (q_run (q_ch a i k) M) := by
  intro k
  induction k with
  | zero =>
    intro i M hi ha hX
    have : i = 118 := by omega
    subst this
    rw [l_J1_inflate_03870_3, if_neg (by decide +kernel)]
    rfl
  | succ k ih =>
    intro i M hi ha hX
    have hg : (ir_ga M 1100000 102 (nI i) || ir_ga M 1100000 103 (nI i)) = true := by
      unfold ir_ga
      rw [q_k_byt, q_X_l hX, q_inb (by omega) (by decide)]
      rfl
    rw [l_J1_inflate_03870_3, if_pos (nI_lt (by omega) (by decide)), q_ck hg, q_ck (q_gwA hk ha (by omega) (by decide)), q_lt, nI_clamp (by omega), q_X_b hX (by omega), q_tx_c i (by omega), nI_1]
    have hX1 : q_X L xs (ir_sI M a i (nI (q_tx.getD i 0))) := q_X_run [(2, a, i, q_tx.getD i 0)] M (by show (Nat.blt a 1000000 && true) = true; rw [ir_blt_t (q_kA_inv hk).2.1]; rfl) hX
    rw [ih (i + 1) _ (by omega) (by show a < ir_nx M; exact ha) hX1]
    rfl
theorem q_toChars {L : Nat} {xs : Nat → Int32} {d n : Nat} {M : ir_M} (hn : ir_nx M = n) (hx : ir_ex M = true) (hk : q_kA n 104 118 = true) (hX : q_X L xs M) : m_J0_toCharArray_70df3 (d + 3) 1000000 M = ir_oP n (q_run ((0, 0, 118, 0) :: q_ch n 0 118) M) := by
  have hgl : ∀ M', q_X L xs M' → ir_gl M' 1100000 = true := by
    intro M' _
    unfold ir_gl
    rw [show Nat.ble 100 (ir_kd 1100000) = true by decide +kernel, show Nat.ble 1000000 1100000 = true by decide]
    cases Nat.blt 1100000 (ir_nx M') <;> rfl
  have h1 : q_X L xs (ir_al M 118) := hX
  have c1 : (Int32.ofNat 118).toNatClampNeg = 118 := by decide +kernel
  rw [e_J0_toCharArray_70df3, q_ck q_k_str, e_J0_isLatin1_aae02, if_neg (by decide +kernel), q_ck q_k_str, q_X_c hX, if_pos rfl, q_ck (by rfl)]
  rw [q_cI]
  rw [if_neg (by decide +kernel), q_ck (by unfold ir_gp; rw [q_k_str, q_X_p hX]; rfl), q_X_p hX, e_J1_toChars_9d188, q_ck (hgl M hX), q_X_l hX, q_ck (q_gnaA hn hx hk c1 (by decide +kernel) (by decide)), q_lt, c1, q_ck (hgl _ h1), q_X_l h1, hn, e_J1_inflate_03870]
  rw [show (0 : Int32) = nI 0 from rfl, show Int32.ofNat 118 = nI 118 from rfl, q_inf hk 118 0 _ rfl (by show n < ir_nx M + 1; omega) h1, q_cV, q_cP]
  rfl
/-! the reader, at 100 -/
def q_A4 : List (Nat × Nat × Nat × Nat) := ((0, 0, 12, 0) :: (q_A9 101 ++ [(1, 100, 2, 101)])) ++ (((0, 0, 9, 0) :: (q_A8 109 ++ [(1, 100, 3, 109)])) ++ (((0, 0, 118, 0) :: q_ch 115 0 118) ++ [(1, 100, 4, 115)]))
theorem q_X4 {L : Nat} {xs : Nat → Int32} {d : Nat} {M : ir_M} (hn : ir_nx M = 101) (hx : ir_ex M = true) (hX : q_X L xs M) : m_X4_init (d + 4) 100 M = ir_oV (q_run q_A4 M) := by
  have k0 : q_kO 100 4 = true := by decide +kernel
  have hT : q_kT 101 = true := by decide +kernel
  have hS : q_kS 109 = true := by decide +kernel
  have hL : q_kA 115 104 118 = true := by decide +kernel
  rw [e_X4_init]
  refine q_ao2 (A := q_A9 101) hn hx (ir_and hT).1 k0 (by decide) (fun M9 h9 x9 => q_X9 h9 x9 hT) (fun M1 e1 n1 x1 => ?_)
  refine q_ao2 (n := 109) (A := q_A8 109) n1 x1 (ir_and hS).1 k0 (by decide) (fun M9 h9 x9 => q_X8 h9 x9 hS) (fun M2 e2 n2 x2 => ?_)
  have hX2 : q_X L xs M2 := by
    rw [e2]
    refine q_X_run _ _ (by decide +kernel) ?_
    rw [e1]
    exact q_X_run _ _ (by decide +kernel) hX
  have n2 : ir_nx M2 = 115 := n2
  rw [q_ck q_k_str, q_toChars n2 x2 hL hX2]
  obtain ⟨M3, e3⟩ : ∃ M9, M9 = q_run ((0, 0, 118, 0) :: q_ch 115 0 118) M2 := ⟨_, rfl⟩
  have n3 : ir_nx M3 = 116 := by rw [e3, q_run_nx, n2]; decide +kernel
  rw [← e3]
  show ir_ck (ir_gv M3 100 4 115) (ir_lt (ir_sP M3 100 4 115) (fun M9 => ir_oV M9)) = _
  rw [q_ck (q_gvO k0 (by omega) (by decide) (by omega)), q_lt]
  refine q_oV ?_
  rw [e3, e2, e1]
  unfold q_A4
  rw [q_run_app, q_run_app, q_run_app]
  rfl
/-! WellQueue, at 1 -/
theorem q_ao3 {M : ir_M} {a c k n : Nat} {f : ir_M → ir_R} {R : ir_R} {g : Nat → ir_M → ir_R} {c2 nf : Nat} {A : List (Nat × Nat × Nat × Nat)} (hn : ir_nx M = n) (hx : ir_ex M = true) (h2 : q_kO n c2 = true) (hO : q_kO a c = true) (ha : a < n)
    (hg : g n (q_do M (0, 0, nf, 0)) = ir_oV (q_run A (q_do M (0, 0, nf, 0))))
    (kk : ∀ M', M' = q_run ((0, 0, nf, 0) :: (A ++ [(1, a, k, n)])) M → ir_nx M' = n + 1 + q_cnt A → ir_ex M' = true → f M' = R) :
    ir_ck (ir_gn M c2) (ir_lt (ir_al M nf) (fun M1 => ir_cV (g (ir_nx M) M1) (fun M2 => ir_ck (ir_gv M2 a c (ir_nx M)) (ir_lt (ir_sP M2 a k (ir_nx M)) f)))) = R := by
  have hn1 : ir_nx (q_do M (0, 0, nf, 0)) = n + 1 := congrArg (· + 1) hn
  have hx1 : ir_ex (q_do M (0, 0, nf, 0)) = true := hx
  have hnx : ir_nx (q_run A (q_do M (0, 0, nf, 0))) = n + 1 + q_cnt A := by rw [q_run_nx, hn1]
  have hxx : ir_ex (q_run A (q_do M (0, 0, nf, 0))) = true := by rw [q_run_ex]; exact hx1
  refine (q_ao hn hx h2 hg hO ha (by omega)).trans (kk _ ?_ hnx hxx)
  show _ = q_run (A ++ [(1, a, k, n)]) (q_do M (0, 0, nf, 0))
  rw [q_run_app]
  rfl
def q_A12 : List (Nat × Nat × Nat × Nat) := [(0, 0, 1640, 0), (1, 412, 0, 413), (0, 0, 1640, 0), (1, 412, 1, 414), (0, 0, 4920, 0), (1, 412, 2, 415), (0, 0, 3, 0), (1, 412, 3, 416), (0, 0, 900, 0), (1, 412, 5, 417), (2, 412, 15, 4294967295), (0, 0, 64, 0), (1, 412, 17, 418), (0, 0, 8, 0), (1, 412, 18, 419), (0, 0, 8, 0), (1, 412, 19, 420), (0, 0, 176, 0), (1, 412, 20, 421), (0, 0, 8, 0), (1, 412, 25, 422), (0, 0, 3, 0), (1, 412, 30, 423), (0, 0, 3, 0), (1, 412, 31, 424), (0, 0, 3, 0), (1, 412, 32, 425), (0, 0, 8, 0), (1, 412, 36, 426), (0, 0, 8, 0), (1, 412, 37, 427), (0, 0, 8, 0), (1, 412, 39, 428), (0, 0, 8, 0), (1, 412, 40, 429), (0, 0, 256, 0), (1, 412, 41, 430), (0, 0, 8, 0), (1, 412, 44, 431), (0, 0, 8, 0), (1, 412, 45, 432), (0, 0, 4, 0), (2, 433, 0, 4294967295), (2, 433, 1, 4294967295), (2, 433, 2, 4294967295), (2, 433, 3, 4294967295), (1, 412, 47, 433), (0, 0, 4, 0), (1, 412, 48, 434), (0, 0, 120, 0), (1, 412, 49, 435), (2, 413, 3, 1)]
theorem q_X12 {d : Nat} {M : ir_M} (hn : ir_nx M = 413) (hx : ir_ex M = true) : m_X12_init (d + 1) 412 M = ir_oV (q_run q_A12 M) := by
  have k0 : q_kO 412 12 = true := by decide +kernel
  rw [e_X12_init]
  refine q_ap2 (n := 413) (len := 1640) hn hx (by decide +kernel) k0 (by decide) (by decide +kernel) (by decide +kernel) (by decide +kernel) (fun M1 e1 n1 x1 => ?_)
  refine q_ap2 (n := 414) (len := 1640) n1 x1 (by decide +kernel) k0 (by decide) (by decide +kernel) (by decide +kernel) (by decide +kernel) (fun M2 e2 n2 x2 => ?_)
  refine q_ap2 (n := 415) (len := 4920) n2 x2 (by decide +kernel) k0 (by decide) (by decide +kernel) (by decide +kernel) (by decide +kernel) (fun M3 e3 n3 x3 => ?_)
  refine q_ap2 (n := 416) (len := 3) n3 x3 (by decide +kernel) k0 (by decide) (by decide +kernel) (by decide +kernel) (by decide +kernel) (fun M4 e4 n4 x4 => ?_)
  refine q_ap2 (n := 417) (len := 900) n4 x4 (by decide +kernel) k0 (by decide) (by decide +kernel) (by decide +kernel) (by decide +kernel) (fun M5 e5 n5 x5 => ?_)
  rw [q_ck (q_gqO k0 (by omega)), q_lt]
  obtain ⟨M6, e6⟩ : ∃ M9, M9 = ir_sI M5 412 15 (-1) := ⟨_, rfl⟩
  have n6 : ir_nx M6 = 418 := by rw [e6]; exact n5
  have x6 : ir_ex M6 = true := by rw [e6]; exact x5
  rw [← e6]
  refine q_ap2 (n := 418) (len := 64) n6 x6 (by decide +kernel) k0 (by decide) (by decide +kernel) (by decide +kernel) (by decide +kernel) (fun M7 e7 n7 x7 => ?_)
  refine q_ap2 (n := 419) (len := 8) n7 x7 (by decide +kernel) k0 (by decide) (by decide +kernel) (by decide +kernel) (by decide +kernel) (fun M8 e8 n8 x8 => ?_)
  refine q_ap2 (n := 420) (len := 8) n8 x8 (by decide +kernel) k0 (by decide) (by decide +kernel) (by decide +kernel) (by decide +kernel) (fun M9 e9 n9 x9 => ?_)
  refine q_ap2 (n := 421) (len := 176) n9 x9 (by decide +kernel) k0 (by decide) (by decide +kernel) (by decide +kernel) (by decide +kernel) (fun M10 e10 n10 x10 => ?_)
  refine q_ap2 (n := 422) (len := 8) n10 x10 (by decide +kernel) k0 (by decide) (by decide +kernel) (by decide +kernel) (by decide +kernel) (fun M11 e11 n11 x11 => ?_)
  refine q_ap2 (n := 423) (len := 3) n11 x11 (by decide +kernel) k0 (by decide) (by decide +kernel) (by decide +kernel) (by decide +kernel) (fun M12 e12 n12 x12 => ?_)
  refine q_ap2 (n := 424) (len := 3) n12 x12 (by decide +kernel) k0 (by decide) (by decide +kernel) (by decide +kernel) (by decide +kernel) (fun M13 e13 n13 x13 => ?_)
  refine q_ap2 (n := 425) (len := 3) n13 x13 (by decide +kernel) k0 (by decide) (by decide +kernel) (by decide +kernel) (by decide +kernel) (fun M14 e14 n14 x14 => ?_)
  refine q_ap2 (n := 426) (len := 8) n14 x14 (by decide +kernel) k0 (by decide) (by decide +kernel) (by decide +kernel) (by decide +kernel) (fun M15 e15 n15 x15 => ?_)
  refine q_ap2 (n := 427) (len := 8) n15 x15 (by decide +kernel) k0 (by decide) (by decide +kernel) (by decide +kernel) (by decide +kernel) (fun M16 e16 n16 x16 => ?_)
  refine q_ap2 (n := 428) (len := 8) n16 x16 (by decide +kernel) k0 (by decide) (by decide +kernel) (by decide +kernel) (by decide +kernel) (fun M17 e17 n17 x17 => ?_)
  refine q_ap2 (n := 429) (len := 8) n17 x17 (by decide +kernel) k0 (by decide) (by decide +kernel) (by decide +kernel) (by decide +kernel) (fun M18 e18 n18 x18 => ?_)
  refine q_ap2 (n := 430) (len := 256) n18 x18 (by decide +kernel) k0 (by decide) (by decide +kernel) (by decide +kernel) (by decide +kernel) (fun M19 e19 n19 x19 => ?_)
  refine q_ap2 (n := 431) (len := 8) n19 x19 (by decide +kernel) k0 (by decide) (by decide +kernel) (by decide +kernel) (by decide +kernel) (fun M20 e20 n20 x20 => ?_)
  refine q_ap2 (n := 432) (len := 8) n20 x20 (by decide +kernel) k0 (by decide) (by decide +kernel) (by decide +kernel) (by decide +kernel) (fun M21 e21 n21 x21 => ?_)
  rw [q_ck (q_gnaA n21 x21 (c := 100) (len := 4) (by decide +kernel) (by decide +kernel) (by decide +kernel) (by decide +kernel)), q_lt]
  rw [show ir_nx M21 = 433 from n21]
  obtain ⟨T0, t0⟩ : ∃ M9, M9 = ir_al M21 (4 : Int32).toNatClampNeg := ⟨_, rfl⟩
  have tn0 : ir_nx T0 = 434 := by rw [t0]; exact congrArg (· + 1) n21
  have tx0 : ir_ex T0 = true := by rw [t0]; exact x21
  rw [← t0]
  rw [q_ck (show ir_gw T0 433 100 (0 : Int32) = true from q_gwA (a := 433) (c := 100) (n := 4) (i := 0) (by decide +kernel) (by omega) (by decide) (by decide)), q_lt, show (0 : Int32).toNatClampNeg = 0 by decide +kernel]
  obtain ⟨T1, t1⟩ : ∃ M9, M9 = ir_sI T0 433 0 (-1) := ⟨_, rfl⟩
  have tn1 : ir_nx T1 = 434 := by rw [t1]; exact tn0
  have tx1 : ir_ex T1 = true := by rw [t1]; exact tx0
  rw [← t1]
  rw [q_ck (show ir_gw T1 433 100 (1 : Int32) = true from q_gwA (a := 433) (c := 100) (n := 4) (i := 1) (by decide +kernel) (by omega) (by decide) (by decide)), q_lt, show (1 : Int32).toNatClampNeg = 1 by decide +kernel]
  obtain ⟨T2, t2⟩ : ∃ M9, M9 = ir_sI T1 433 1 (-1) := ⟨_, rfl⟩
  have tn2 : ir_nx T2 = 434 := by rw [t2]; exact tn1
  have tx2 : ir_ex T2 = true := by rw [t2]; exact tx1
  rw [← t2]
  rw [q_ck (show ir_gw T2 433 100 (2 : Int32) = true from q_gwA (a := 433) (c := 100) (n := 4) (i := 2) (by decide +kernel) (by omega) (by decide) (by decide)), q_lt, show (2 : Int32).toNatClampNeg = 2 by decide +kernel]
  obtain ⟨T3, t3⟩ : ∃ M9, M9 = ir_sI T2 433 2 (-1) := ⟨_, rfl⟩
  have tn3 : ir_nx T3 = 434 := by rw [t3]; exact tn2
  have tx3 : ir_ex T3 = true := by rw [t3]; exact tx2
  rw [← t3]
  rw [q_ck (show ir_gw T3 433 100 (3 : Int32) = true from q_gwA (a := 433) (c := 100) (n := 4) (i := 3) (by decide +kernel) (by omega) (by decide) (by decide)), q_lt, show (3 : Int32).toNatClampNeg = 3 by decide +kernel]
  obtain ⟨T4, t4⟩ : ∃ M9, M9 = ir_sI T3 433 3 (-1) := ⟨_, rfl⟩
  have tn4 : ir_nx T4 = 434 := by rw [t4]; exact tn3
  have tx4 : ir_ex T4 = true := by rw [t4]; exact tx3
  rw [← t4]
  rw [q_ck (q_gvO k0 (by omega) (by decide) (by omega)), q_lt]
  obtain ⟨T5, t5⟩ : ∃ M9, M9 = ir_sP T4 412 47 433 := ⟨_, rfl⟩
  have tn5 : ir_nx T5 = 434 := by rw [t5]; exact tn4
  have tx5 : ir_ex T5 = true := by rw [t5]; exact tx4
  rw [← t5]
  refine q_ap2 (n := 434) (len := 4) tn5 tx5 (by decide +kernel) k0 (by decide) (by decide +kernel) (by decide +kernel) (by decide +kernel) (fun T6 t6 tn6 tx6 => ?_)
  refine q_ap2 (n := 435) (len := 120) tn6 tx6 (by decide +kernel) k0 (by decide) (by decide +kernel) (by decide +kernel) (by decide +kernel) (fun T7 t7 tn7 tx7 => ?_)
  have hall : T7 = q_run (q_A12.dropLast) M := by
    rw [t7, t6, t5, t4, t3, t2, t1, t0, e21, e20, e19, e18, e17, e16, e15, e14, e13, e12, e11, e10, e9, e8, e7, e6, e5, e4, e3, e2, e1]
    rfl
  have hp : ir_P T7 412 0 = 413 := by
    rw [hall]
    show (q_run _ M).2.2.1 412 0 = 413
    rw [q_run_P]
    rfl
  rw [q_ck (q_gpP k0 (by omega) hp (by decide)), hp, q_ck (show ir_gw T7 413 100 (3 : Int32) = true from q_gwA (a := 413) (c := 100) (n := 1640) (i := 3) (by decide +kernel) (by omega) (by decide) (by decide)), q_lt]
  refine q_oV ?_
  rw [hall]
  rfl
def q_A11a : List (Nat × Nat × Nat × Nat) := [(0, 0, 900, 0), (1, 1, 0, 2)] ++ ([(2, 1, 3, 4294967295)] ++ (((0, 0, 5, 0) :: (q_A5 3 ++ [(1, 1, 4, 3)])) ++ ([(1, 1, 5, 4)] ++ ([(1, 1, 6, 12)] ++ (((0, 0, 9, 0) :: (q_A8 91 ++ [(1, 1, 7, 91)])) ++ ([(0, 0, 3, 0), (1, 1, 8, 97)] ++ ([(0, 0, 3, 0), (1, 1, 9, 98)] ++ ([(0, 0, 4, 0), (1, 1, 10, 99)] ++ (((0, 0, 11, 0) :: (q_A4 ++ [(1, 1, 11, 100)])) ++ (((0, 0, 4, 0) :: (q_A0 116 ++ [(1, 1, 12, 116)])) ++ (((0, 0, 11, 0) :: (q_A2 121 ++ [(1, 1, 13, 121)])) ++ (((0, 0, 10, 0) :: (q_A3 125 ++ [(1, 1, 14, 125)])) ++ (((0, 0, 5, 0) :: (q_A7 129 ++ [(1, 1, 15, 129)])) ++ (((0, 0, 9, 0) :: (q_A6 133 ++ [(1, 1, 16, 133)]))))))))))))))))
def q_sc : Nat → Nat → List (Nat × Nat × Nat × Nat)
  | _, 0 => []
  | i, k + 1 => (0, 0, 5, 0) :: (q_A5 (140 + 88 * i) ++ ((1, 97, i, 140 + 88 * i) :: q_sc (i + 1) k))
def q_ty : Nat → Nat → List (Nat × Nat × Nat × Nat)
  | _, 0 => []
  | i, k + 1 => (0, 0, 4, 0) :: (q_A10 (404 + 2 * i) ++ ((1, 99, i, 404 + 2 * i) :: q_ty (i + 1) k))
def q_A11 : List (Nat × Nat × Nat × Nat) := q_A11a ++ (q_sc 0 3 ++ q_ty 0 4)
theorem q_kC3 : ∀ i, i < 3 → q_kC (140 + 88 * i) = true := by decide +kernel
theorem q_kY4 : ∀ i, i < 4 → q_kY (404 + 2 * i) = true := by decide +kernel
theorem q_X11t {d : Nat} : ∀ (k i : Nat) (M : ir_M), i + k = 4 → ir_nx M = 404 + 2 * i → ir_ex M = true → ir_P M 1 10 = 99 → v_X11_init_179 (d + 1) 1 (nI i) M = ir_oV (q_run (q_ty i k) M) := by
  have k0 : q_kO 1 11 = true := by decide +kernel
  have k1 : q_kA 99 107 4 = true := by decide +kernel
  intro k
  induction k with
  | zero =>
    intro i M hi hn hx hp
    have : i = 4 := by omega
    subst this
    rw [l_X11_init_179, if_neg (by decide +kernel)]
    rfl
  | succ k ih =>
    intro i M hi hn hx hp
    have hY := q_kY4 i (by omega)
    rw [l_X11_init_179, if_pos (show nI i < 4 from nI_lt (a := i) (b := 4) (by omega) (by decide)), q_ck (q_gpP k0 (by omega) hp (by omega)), q_ck (q_gnO hn hx (ir_and hY).1), q_lt]
    obtain ⟨M1, e1⟩ : ∃ M1, M1 = ir_al M 4 := ⟨_, rfl⟩
    have n1 : ir_nx M1 = 404 + 2 * i + 1 := by rw [e1]; show ir_nx M + 1 = _; omega
    have x1 : ir_ex M1 = true := by rw [e1]; exact hx
    have p1 : ir_P M1 1 10 = 99 := by rw [e1]; exact hp
    rw [← e1, hn, hp, q_X10 n1 x1 hY]
    obtain ⟨M2, e2⟩ : ∃ M2, M2 = q_run (q_A10 (404 + 2 * i)) M1 := ⟨_, rfl⟩
    have n2 : ir_nx M2 = 404 + 2 * (i + 1) := by rw [e2, q_run_nx, n1]; show 404 + 2 * i + 1 + 1 = _; omega
    have x2 : ir_ex M2 = true := by rw [e2, q_run_ex]; exact x1
    have p2 : ir_P M2 1 10 = 99 := by
      rw [e2]
      show (q_run (q_A10 (404 + 2 * i)) M1).2.2.1 1 10 = _
      rw [q_run_P]
      show (if 1 = 404 + 2 * i then _ else M1.2.2.1 1 10) = 99
      rw [if_neg (by omega)]
      exact p1
    rw [← e2, q_cV, q_gwA (n := 4) k1 (by omega) (by omega) (by decide), q_gkO (ir_and hY).1 (by omega), ir_blt_t (show 0 < 404 + 2 * i by omega), ir_blt_t (show 404 + 2 * i < ir_nx M2 by omega)]
    rw [q_ck (by simp), q_lt, nI_clamp (by omega), nI_1]
    obtain ⟨M3, e3⟩ : ∃ M3, M3 = ir_sP M2 99 i (404 + 2 * i) := ⟨_, rfl⟩
    rw [← e3, ih (i + 1) M3 (by omega) (by rw [e3]; exact n2) (by rw [e3]; exact x2) ?_]
    · refine q_oV ?_
      rw [e3, e2, e1]
      show _ = q_run (q_A10 (404 + 2 * i) ++ ((1, 99, i, 404 + 2 * i) :: q_ty (i + 1) k)) (ir_al M 4)
      rw [q_run_app]
      rfl
    · rw [e3]
      show (ir_sP M2 99 i (404 + 2 * i)).2.2.1 1 10 = _
      rw [q_do_P, if_neg (by decide)]
      exact p2
theorem q_kp_P {a x y : Nat} (h1 : x < a) : ∀ (k i : Nat) (M : ir_M), (q_run (q_kp a i k) M).2.2.1 x y = M.2.2.1 x y
  | 0, _, _ => rfl
  | k + 1, i, M => by
    show (q_run (q_A8 (a + 16 + 6 * i) ++ ((1, a + 15, i, a + 16 + 6 * i) :: q_kp a (i + 1) k)) (ir_al M 9)).2.2.1 x y = _
    rw [q_run_app]
    show (q_run (q_kp a (i + 1) k) (ir_sP (q_run (q_A8 (a + 16 + 6 * i)) (ir_al M 9)) (a + 15) i (a + 16 + 6 * i))).2.2.1 x y = _
    rw [q_kp_P h1 k, q_do_P, if_neg (by omega), q_A8_P (by omega)]
    rfl
theorem q_A5_P {a x y : Nat} (h1 : x < a) (M : ir_M) : (q_run (q_A5 a) M).2.2.1 x y = M.2.2.1 x y := by
  unfold q_A5
  rw [q_run_app, q_run_app, q_run_app, q_kp_P h1, q_run_P, q_run_P]
  show (if x = a then _ else q_lkP (q_A8 (a + 9) ++ [(1, a, 1, a + 9)]) x y ((q_run ((0, 0, 12, 0) :: (q_A9 (a + 1) ++ [(1, a, 0, a + 1)])) M).2.2.1 x y)) = _
  rw [if_neg (by omega)]
  show (if x = a then _ else (if x = a + 9 then _ else (if x = a + 9 then _ else (if x = a + 9 then _ else (if x = a + 9 then _ else (if x = a + 9 then _ else (q_run ((0, 0, 12, 0) :: (q_A9 (a + 1) ++ [(1, a, 0, a + 1)])) M).2.2.1 x y)))))) = _
  rw [if_neg (by omega), if_neg (by omega), if_neg (by omega), if_neg (by omega), if_neg (by omega), if_neg (by omega), q_run_P]
  show (if x = a then _ else (if x = a + 1 then _ else (if x = a + 1 then _ else (if x = a + 1 then _ else (if x = a + 1 + 3 then _ else (if x = a + 1 + 3 then _ else (if x = a + 1 then _ else (if x = a + 1 then _ else M.2.2.1 x y)))))))) = _
  rw [if_neg (by omega), if_neg (by omega), if_neg (by omega), if_neg (by omega), if_neg (by omega), if_neg (by omega), if_neg (by omega), if_neg (by omega)]
set_option maxRecDepth 100000 in
theorem q_A5_cnt (a : Nat) : q_cnt (q_A5 a) = 87 := rfl
theorem q_X11s {d : Nat} : ∀ (k i : Nat) (M : ir_M), i + k = 3 → ir_nx M = 140 + 88 * i → ir_ex M = true → ir_P M 1 8 = 97 → ir_P M 1 10 = 99 → v_X11_init_153 (d + 4) 1 (nI i) M = ir_oV (q_run (q_sc i k ++ q_ty 0 4) M) := by
  have k0 : q_kO 1 11 = true := by decide +kernel
  have k1 : q_kA 97 106 3 = true := by decide +kernel
  intro k
  induction k with
  | zero =>
    intro i M hi hn hx hp hq
    have : i = 3 := by omega
    subst this
    rw [l_X11_init_153, if_neg (by decide +kernel), show (0 : Int32) = nI 0 from rfl, q_X11t 4 0 M rfl (by rw [hn]) hx hq]
    rfl
  | succ k ih =>
    intro i M hi hn hx hp hq
    have hY := q_kC3 i (by omega)
    have hO : q_kO (140 + 88 * i) 5 = true := (ir_and (ir_and hY).1).1
    rw [l_X11_init_153, if_pos (show nI i < 3 from nI_lt (a := i) (b := 3) (by omega) (by decide)), q_ck (q_gpP k0 (by omega) hp (by omega)), q_ck (q_gnO hn hx hO), q_lt]
    obtain ⟨M1, e1⟩ : ∃ M1, M1 = ir_al M 5 := ⟨_, rfl⟩
    have n1 : ir_nx M1 = 140 + 88 * i + 1 := by rw [e1]; show ir_nx M + 1 = _; omega
    have x1 : ir_ex M1 = true := by rw [e1]; exact hx
    have p1 : ir_P M1 1 8 = 97 := by rw [e1]; exact hp
    have r1 : ir_P M1 1 10 = 99 := by rw [e1]; exact hq
    rw [← e1, hn, hp, q_X5 n1 x1 hY]
    obtain ⟨M2, e2⟩ : ∃ M2, M2 = q_run (q_A5 (140 + 88 * i)) M1 := ⟨_, rfl⟩
    have n2 : ir_nx M2 = 140 + 88 * (i + 1) := by rw [e2, q_run_nx, n1, q_A5_cnt]; omega
    have x2 : ir_ex M2 = true := by rw [e2, q_run_ex]; exact x1
    have p2 : ∀ y, ir_P M2 1 y = ir_P M1 1 y := by
      intro y
      rw [e2]
      exact q_A5_P (by omega) M1
    rw [← e2, q_cV, q_gwA (n := 3) k1 (by omega) (by omega) (by decide), q_gkO hO (by omega), ir_blt_t (show 0 < 140 + 88 * i by omega), ir_blt_t (show 140 + 88 * i < ir_nx M2 by omega)]
    rw [q_ck (by simp), q_lt, nI_clamp (by omega), nI_1]
    obtain ⟨M3, e3⟩ : ∃ M3, M3 = ir_sP M2 97 i (140 + 88 * i) := ⟨_, rfl⟩
    have p3 : ∀ y, ir_P M3 1 y = ir_P M1 1 y := by
      intro y
      rw [← p2 y, e3]
      show (ir_sP M2 97 i (140 + 88 * i)).2.2.1 1 y = _
      rw [q_do_P, if_neg (by decide)]
      rfl
    rw [← e3, ih (i + 1) M3 (by omega) (by rw [e3]; exact n2) (by rw [e3]; exact x2) ((p3 8).trans p1) ((p3 10).trans r1)]
    refine q_oV ?_
    rw [e3, e2, e1]
    show _ = q_run ((0, 0, 5, 0) :: ((q_A5 (140 + 88 * i) ++ ((1, 97, i, 140 + 88 * i) :: q_sc (i + 1) k)) ++ q_ty 0 4)) M
    show _ = q_run ((q_A5 (140 + 88 * i) ++ ((1, 97, i, 140 + 88 * i) :: q_sc (i + 1) k)) ++ q_ty 0 4) (ir_al M 5)
    rw [List.append_assoc, q_run_app (q_A5 (140 + 88 * i))]
    rfl
set_option maxRecDepth 100000 in
theorem q_X11 {L : Nat} {xs : Nat → Int32} {d : Nat} {M : ir_M} (hn : ir_nx M = 2) (hx : ir_ex M = true) (hX : q_X L xs M) : m_X11_init (d + 5) 1 M = ir_oV (q_run q_A11 M) := by
  have k0 : q_kO 1 11 = true := by decide +kernel
  rw [e_X11_init]
  refine q_ap2 (n := 2) (len := 900) hn hx (by decide +kernel) k0 (by decide) (by decide +kernel) (by decide +kernel) (by decide +kernel) (fun M1 e1 n1 x1 => ?_)
  rw [q_ck (q_gqO k0 (by omega)), q_lt]
  obtain ⟨M2, e2⟩ : ∃ M9, M9 = ir_sI M1 1 3 (-1) := ⟨_, rfl⟩
  have n2 : ir_nx M2 = 3 := by rw [e2]; exact n1
  have x2 : ir_ex M2 = true := by rw [e2]; exact x1
  rw [← e2]
  refine q_ao3 (n := 3) (A := q_A5 3) n2 x2 (by decide +kernel) k0 (by decide) (q_X5 (congrArg (· + 1) n2) x2 (by decide +kernel)) (fun M3 e3 n3 x3 => ?_)
  have a4 : ir_P M3 1 4 = 3 := by rw [e3]; show (q_run _ _).2.2.1 1 4 = 3; rw [q_run_P]; rfl
  have b4 : ir_P M3 3 0 = 4 := by rw [e3]; show (q_run _ _).2.2.1 3 0 = 4; rw [q_run_P]; rfl
  have m3 : ir_nx M3 = 91 := n3
  rw [q_ck (q_gpP k0 (by omega) a4 (by decide)), a4, q_ck (q_gpP (c := 5) (by decide +kernel) (by omega) b4 (by decide)), b4, q_ck (q_gvO k0 (by omega) (by decide) (by omega)), q_lt]
  obtain ⟨M4, e4⟩ : ∃ M9, M9 = ir_sP M3 1 5 4 := ⟨_, rfl⟩
  have n4 : ir_nx M4 = 91 := by rw [e4]; exact n3
  have x4 : ir_ex M4 = true := by rw [e4]; exact x3
  rw [← e4]
  have a5 : ir_P M4 1 4 = 3 := by rw [e4]; show (ir_sP M3 1 5 4).2.2.1 1 4 = 3; rw [q_do_P, if_pos rfl, if_neg (by decide)]; exact a4
  have b5 : ir_P M4 3 1 = 12 := by rw [e4]; show (ir_sP M3 1 5 4).2.2.1 3 1 = 12; rw [q_do_P, if_neg (by decide)]; show ir_P M3 3 1 = 12; rw [e3]; show (q_run _ _).2.2.1 3 1 = 12; rw [q_run_P]; rfl
  have m4 : ir_nx M4 = 91 := n4
  rw [q_ck (q_gpP k0 (by omega) a5 (by decide)), a5, q_ck (q_gpP (c := 5) (by decide +kernel) (by omega) b5 (by decide)), b5, q_ck (q_gvO k0 (by omega) (by decide) (by omega)), q_lt]
  obtain ⟨M5, e5⟩ : ∃ M9, M9 = ir_sP M4 1 6 12 := ⟨_, rfl⟩
  have n5 : ir_nx M5 = 91 := by rw [e5]; exact n4
  have x5 : ir_ex M5 = true := by rw [e5]; exact x4
  rw [← e5]
  refine q_ao3 (n := 91) (A := q_A8 91) n5 x5 (by decide +kernel) k0 (by decide) (q_X8 (congrArg (· + 1) n5) x5 (by decide +kernel)) (fun M6 e6 n6 x6 => ?_)
  refine q_ap2 (n := 97) (len := 3) n6 x6 (by decide +kernel) k0 (by decide) (by decide +kernel) (by decide +kernel) (by decide +kernel) (fun M7 e7 n7 x7 => ?_)
  refine q_ap2 (n := 98) (len := 3) n7 x7 (by decide +kernel) k0 (by decide) (by decide +kernel) (by decide +kernel) (by decide +kernel) (fun M8 e8 n8 x8 => ?_)
  refine q_ap2 (n := 99) (len := 4) n8 x8 (by decide +kernel) k0 (by decide) (by decide +kernel) (by decide +kernel) (by decide +kernel) (fun M9 e9 n9 x9 => ?_)
  have hX9 : q_X L xs M9 := by
    rw [e9]; refine q_X_run _ _ (by decide +kernel) ?_; rw [e8]; refine q_X_run _ _ (by decide +kernel) ?_; rw [e7]; refine q_X_run _ _ (by decide +kernel) ?_; rw [e6]; refine q_X_run _ _ (by decide +kernel) ?_
    rw [e5]; refine q_X_run [(1, 1, 6, 12)] _ (by decide +kernel) ?_; rw [e4]; refine q_X_run [(1, 1, 5, 4)] _ (by decide +kernel) ?_; rw [e3]; refine q_X_run _ _ (by decide +kernel) ?_; rw [e2]; refine q_X_run [(2, 1, 3, 4294967295)] _ (by decide +kernel) ?_; rw [e1]; exact q_X_run _ _ (by decide +kernel) hX
  refine q_ao3 (n := 100) (A := q_A4) n9 x9 (by decide +kernel) k0 (by decide) (q_X4 (congrArg (· + 1) n9) x9 hX9) (fun M10 e10 n10 x10 => ?_)
  refine q_ao3 (n := 116) (A := q_A0 116) n10 x10 (by decide +kernel) k0 (by decide) (q_X0 (congrArg (· + 1) n10) x10 (by decide +kernel)) (fun M11 e11 n11 x11 => ?_)
  refine q_ao3 (n := 121) (A := q_A2 121) n11 x11 (by decide +kernel) k0 (by decide) (q_X2 (congrArg (· + 1) n11) x11 (by decide +kernel)) (fun M12 e12 n12 x12 => ?_)
  refine q_ao3 (n := 125) (A := q_A3 125) n12 x12 (by decide +kernel) k0 (by decide) (q_X3 (congrArg (· + 1) n12) x12 (by decide +kernel)) (fun M13 e13 n13 x13 => ?_)
  refine q_ao3 (n := 129) (A := q_A7 129) n13 x13 (by decide +kernel) k0 (by decide) (q_X7 (congrArg (· + 1) n13) x13 (by decide +kernel)) (fun M14 e14 n14 x14 => ?_)
  refine q_ao3 (n := 133) (A := q_A6 133) n14 x14 (by decide +kernel) k0 (by decide) (q_X6 (congrArg (· + 1) n14) x14 (by decide +kernel)) (fun M15 e15 n15 x15 => ?_)
  have hall : M15 = q_run q_A11a M := by
    rw [e15, e14, e13, e12, e11, e10, e9, e8, e7, e6, e5, e4, e3, e2, e1]
    unfold q_A11a
    rw [q_run_app, q_run_app, q_run_app, q_run_app, q_run_app, q_run_app, q_run_app, q_run_app, q_run_app, q_run_app, q_run_app, q_run_app, q_run_app, q_run_app]
    rfl
  have m15 : ir_nx M15 = 140 := n15
  have p8 : ir_P M15 1 8 = 97 := by rw [hall]; show (q_run _ M).2.2.1 1 8 = 97; rw [q_run_P]; rfl
  have p10 : ir_P M15 1 10 = 99 := by rw [hall]; show (q_run _ M).2.2.1 1 10 = 99; rw [q_run_P]; rfl
  rw [show (0 : Int32) = nI 0 from rfl, q_X11s 3 0 M15 rfl m15 x15 p8 p10]
  refine q_oV ?_
  rw [hall]
  unfold q_A11
  rw [q_run_app q_A11a]
/-! THE LAW, up to its loop -/
def q_AL : List (Nat × Nat × Nat × Nat) := ((0, 0, 20, 0) :: q_A11) ++ (((0, 0, 50, 0) :: q_A12) ++ [(0, 0, 1, 0)])
theorem q_A11_cnt : q_cnt q_A11 = 410 := by decide +kernel
theorem q_A12_cnt : q_cnt q_A12 = 23 := by decide +kernel
theorem q_run_cons (c : Nat × Nat × Nat × Nat) (l : List (Nat × Nat × Nat × Nat)) (M : ir_M) : q_run (c :: l) M = q_run l (q_do M c) := rfl
theorem q_run_nil (M : ir_M) : q_run [] M = M := rfl
theorem q_law {L : Nat} {xs : Nat → Int32} {d : Nat} {M : ir_M} (hn : ir_nx M = 1) (hx : ir_ex M = true) (hX : q_X L xs M) : m_L_law (d + 6) 2000000 M = v_L_law_23 (d + 5) 2000000 1 412 436 (0 : Int32) (q_run q_AL M) := by
  rw [e_L_law, q_ck (q_gnO hn hx (by decide +kernel)), q_lt, hn]
  obtain ⟨M1, e1⟩ : ∃ M9, M9 = ir_al M 20 := ⟨_, rfl⟩
  have n1 : ir_nx M1 = 2 := by rw [e1]; show ir_nx M + 1 = 2; omega
  have x1 : ir_ex M1 = true := by rw [e1]; exact hx
  have X1 : q_X L xs M1 := by rw [e1]; exact hX
  rw [← e1, q_X11 n1 x1 X1, q_cV]
  obtain ⟨M2, e2⟩ : ∃ M9, M9 = q_run q_A11 M1 := ⟨_, rfl⟩
  have n2 : ir_nx M2 = 412 := by rw [e2, q_run_nx, n1, q_A11_cnt]
  have x2 : ir_ex M2 = true := by rw [e2, q_run_ex]; exact x1
  rw [← e2, q_ck (q_gnO n2 x2 (by decide +kernel)), q_lt, n2]
  obtain ⟨M3, e3⟩ : ∃ M9, M9 = ir_al M2 50 := ⟨_, rfl⟩
  have n3 : ir_nx M3 = 413 := by rw [e3]; show ir_nx M2 + 1 = 413; omega
  have x3 : ir_ex M3 = true := by rw [e3]; exact x2
  rw [← e3, q_X12 n3 x3, q_cV]
  obtain ⟨M4, e4⟩ : ∃ M9, M9 = q_run q_A12 M3 := ⟨_, rfl⟩
  have n4 : ir_nx M4 = 436 := by rw [e4, q_run_nx, n3, q_A12_cnt]
  have x4 : ir_ex M4 = true := by rw [e4, q_run_ex]; exact x3
  rw [← e4, q_ck (q_gnaA n4 x4 (c := 101) (len := 1) (by decide +kernel) (by decide +kernel) (by decide +kernel) (by decide +kernel)), q_lt, n4]
  have e5 : ir_al M4 (1 : Int32).toNatClampNeg = q_run q_AL M := by
    rw [e4, e3, e2, e1, show (1 : Int32).toNatClampNeg = 1 by decide +kernel]
    unfold q_AL
    rw [q_run_app, q_run_app, q_run_cons, q_run_cons, q_run_cons, q_run_nil]
    rfl
  rw [e5]
theorem q_lk_any {l : List (Nat × Nat × Nat × Nat)} {x y v : Nat} (h0 : q_lkP l x y 0 = v) (h1 : q_lkP l x y 1 = v) (z : Nat) : q_lkP l x y z = v := by
  have key : ∀ (l : List (Nat × Nat × Nat × Nat)), (∀ z, q_lkP l x y z = z) ∨ ∃ w, ∀ z, q_lkP l x y z = w := by
    intro l
    induction l with
    | nil => exact Or.inl fun z => rfl
    | cons c l ih =>
      obtain ⟨t, a, k, u⟩ := c
      match t with
      | 0 => exact ih
      | 1 =>
        by_cases ha : x = a
        · by_cases hk : y = k
          · refine Or.inr ?_
            rcases ih with ih | ⟨w, ih⟩
            · exact ⟨u, fun z => by show q_lkP l x y (if x = a then (if y = k then u else z) else z) = u; rw [if_pos ha, if_pos hk, ih]⟩
            · exact ⟨w, fun z => ih _⟩
          · rcases ih with ih | ⟨w, ih⟩
            · exact Or.inl fun z => by show q_lkP l x y (if x = a then (if y = k then u else z) else z) = z; rw [if_pos ha, if_neg hk, ih]
            · exact Or.inr ⟨w, fun z => ih _⟩
        · rcases ih with ih | ⟨w, ih⟩
          · exact Or.inl fun z => by show q_lkP l x y (if x = a then (if y = k then u else z) else z) = z; rw [if_neg ha, ih]
          · exact Or.inr ⟨w, fun z => ih _⟩
      | t + 2 => exact ih
  rcases key l with h | ⟨w, h⟩
  · rw [h] at h0 h1
    omega
  · rw [h, ← h0, h]
