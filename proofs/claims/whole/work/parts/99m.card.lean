/-! sets counted -/
def k_bc (l0 : Int32) : Int32 := ((((((((l0 - ((l0.toUInt32 >>> ((1 : Int32).toUInt32 &&& Int32.toUInt32 31)).toInt32 &&& (1431655765 : Int32))) &&& (858993459 : Int32)) + (((l0 - ((l0.toUInt32 >>> ((1 : Int32).toUInt32 &&& Int32.toUInt32 31)).toInt32 &&& (1431655765 : Int32))).toUInt32 >>> ((2 : Int32).toUInt32 &&& Int32.toUInt32 31)).toInt32 &&& (858993459 : Int32))) + ((((l0 - ((l0.toUInt32 >>> ((1 : Int32).toUInt32 &&& Int32.toUInt32 31)).toInt32 &&& (1431655765 : Int32))) &&& (858993459 : Int32)) + (((l0 - ((l0.toUInt32 >>> ((1 : Int32).toUInt32 &&& Int32.toUInt32 31)).toInt32 &&& (1431655765 : Int32))).toUInt32 >>> ((2 : Int32).toUInt32 &&& Int32.toUInt32 31)).toInt32 &&& (858993459 : Int32))).toUInt32 >>> ((4 : Int32).toUInt32 &&& Int32.toUInt32 31)).toInt32) &&& (252645135 : Int32)) + ((((((l0 - ((l0.toUInt32 >>> ((1 : Int32).toUInt32 &&& Int32.toUInt32 31)).toInt32 &&& (1431655765 : Int32))) &&& (858993459 : Int32)) + (((l0 - ((l0.toUInt32 >>> ((1 : Int32).toUInt32 &&& Int32.toUInt32 31)).toInt32 &&& (1431655765 : Int32))).toUInt32 >>> ((2 : Int32).toUInt32 &&& Int32.toUInt32 31)).toInt32 &&& (858993459 : Int32))) + ((((l0 - ((l0.toUInt32 >>> ((1 : Int32).toUInt32 &&& Int32.toUInt32 31)).toInt32 &&& (1431655765 : Int32))) &&& (858993459 : Int32)) + (((l0 - ((l0.toUInt32 >>> ((1 : Int32).toUInt32 &&& Int32.toUInt32 31)).toInt32 &&& (1431655765 : Int32))).toUInt32 >>> ((2 : Int32).toUInt32 &&& Int32.toUInt32 31)).toInt32 &&& (858993459 : Int32))).toUInt32 >>> ((4 : Int32).toUInt32 &&& Int32.toUInt32 31)).toInt32) &&& (252645135 : Int32)).toUInt32 >>> ((8 : Int32).toUInt32 &&& Int32.toUInt32 31)).toInt32) + (((((((l0 - ((l0.toUInt32 >>> ((1 : Int32).toUInt32 &&& Int32.toUInt32 31)).toInt32 &&& (1431655765 : Int32))) &&& (858993459 : Int32)) + (((l0 - ((l0.toUInt32 >>> ((1 : Int32).toUInt32 &&& Int32.toUInt32 31)).toInt32 &&& (1431655765 : Int32))).toUInt32 >>> ((2 : Int32).toUInt32 &&& Int32.toUInt32 31)).toInt32 &&& (858993459 : Int32))) + ((((l0 - ((l0.toUInt32 >>> ((1 : Int32).toUInt32 &&& Int32.toUInt32 31)).toInt32 &&& (1431655765 : Int32))) &&& (858993459 : Int32)) + (((l0 - ((l0.toUInt32 >>> ((1 : Int32).toUInt32 &&& Int32.toUInt32 31)).toInt32 &&& (1431655765 : Int32))).toUInt32 >>> ((2 : Int32).toUInt32 &&& Int32.toUInt32 31)).toInt32 &&& (858993459 : Int32))).toUInt32 >>> ((4 : Int32).toUInt32 &&& Int32.toUInt32 31)).toInt32) &&& (252645135 : Int32)) + ((((((l0 - ((l0.toUInt32 >>> ((1 : Int32).toUInt32 &&& Int32.toUInt32 31)).toInt32 &&& (1431655765 : Int32))) &&& (858993459 : Int32)) + (((l0 - ((l0.toUInt32 >>> ((1 : Int32).toUInt32 &&& Int32.toUInt32 31)).toInt32 &&& (1431655765 : Int32))).toUInt32 >>> ((2 : Int32).toUInt32 &&& Int32.toUInt32 31)).toInt32 &&& (858993459 : Int32))) + ((((l0 - ((l0.toUInt32 >>> ((1 : Int32).toUInt32 &&& Int32.toUInt32 31)).toInt32 &&& (1431655765 : Int32))) &&& (858993459 : Int32)) + (((l0 - ((l0.toUInt32 >>> ((1 : Int32).toUInt32 &&& Int32.toUInt32 31)).toInt32 &&& (1431655765 : Int32))).toUInt32 >>> ((2 : Int32).toUInt32 &&& Int32.toUInt32 31)).toInt32 &&& (858993459 : Int32))).toUInt32 >>> ((4 : Int32).toUInt32 &&& Int32.toUInt32 31)).toInt32) &&& (252645135 : Int32)).toUInt32 >>> ((8 : Int32).toUInt32 &&& Int32.toUInt32 31)).toInt32).toUInt32 >>> ((16 : Int32).toUInt32 &&& Int32.toUInt32 31)).toInt32) &&& (63 : Int32))
def k_card (s : Nat) : Nat := (if s.testBit 0 then 1 else 0) + (if s.testBit 1 then 1 else 0) + (if s.testBit 2 then 1 else 0) + (if s.testBit 3 then 1 else 0) + (if s.testBit 4 then 1 else 0) + (if s.testBit 5 then 1 else 0) + (if s.testBit 6 then 1 else 0) + (if s.testBit 7 then 1 else 0)
theorem c_bc {d : Nat} {l0 : Int32} {M : ir_M} : m_J6_bitCount_0f7a4 (d + 1) l0 M = ir_oI (k_bc l0) M := e_J6_bitCount_0f7a4 d l0 M
theorem n_bc : ∀ s, s < 256 → k_bc (nI s) = nI (k_card s) := by decide +kernel
theorem n_cd : ∀ s, s < 256 → s ≠ 0 → (s &&& (s - 1)) < s ∧ k_card (s &&& (s - 1)) + 1 = k_card s ∧ nI s &&& nI (s - 1) = nI (s &&& (s - 1)) := by decide +kernel
theorem k_card_le : ∀ s, s < 256 → k_card s ≤ 8 ∧ (k_card s = 0 → s = 0) := by decide +kernel
theorem r_size1 {d : Nat} {M : ir_M} : ∀ (n s c : Nat), s ≤ n → s < 256 → v_X12_size_4 d (nI c) (nI s) M = ir_oI (nI (c + k_card s)) M
  | 0, s, c, h, _ => by
    rw [L_X12_size_4]
    have : s = 0 := by omega
    simp (disch := omega) only [q_ckt, q_lt, q_cI, q_cJ, q_cV, q_cP, q_xI, q_xV, q_xP, q_xJ, g_gk, g_ga, g_gw, g_gp, g_gq, g_P, g_J, q_I_s, q_I_n, q_I_k, nI_add, pk_sub, pk_mul, nI_clamp, n_lt0, n_0lt, n_eq0, n_lt, n_le, n_eq, n_m1, n_m2, n_m9, n_12, n_19, n_10, n_01, n_1n1, n_0n1, n_1n0, n_0n0, n_dI, n_m1lt, q_inb, n_nar, n_nar0, n_nar1, n_bool, Bool.false_eq_true, Bool.true_eq_false, if_true, if_false, ↓reduceIte, Nat.reduceAdd, Nat.reduceMul, Nat.reduceSub, Nat.reduceLT, Nat.reduceLeDiff, Nat.reduceEqDiff, Nat.reduceMod, Nat.reduceDiv, this]
    rfl
  | n + 1, s, c, h, h2 => by
    by_cases q : s = 0
    · rw [L_X12_size_4]
      simp (disch := omega) only [q_ckt, q_lt, q_cI, q_cJ, q_cV, q_cP, q_xI, q_xV, q_xP, q_xJ, g_gk, g_ga, g_gw, g_gp, g_gq, g_P, g_J, q_I_s, q_I_n, q_I_k, nI_add, pk_sub, pk_mul, nI_clamp, n_lt0, n_0lt, n_eq0, n_lt, n_le, n_eq, n_m1, n_m2, n_m9, n_12, n_19, n_10, n_01, n_1n1, n_0n1, n_1n0, n_0n0, n_dI, n_m1lt, q_inb, n_nar, n_nar0, n_nar1, n_bool, Bool.false_eq_true, Bool.true_eq_false, if_true, if_false, ↓reduceIte, Nat.reduceAdd, Nat.reduceMul, Nat.reduceSub, Nat.reduceLT, Nat.reduceLeDiff, Nat.reduceEqDiff, Nat.reduceMod, Nat.reduceDiv, q]
      rfl
    · obtain ⟨a, b, e⟩ := n_cd s h2 q
      have ih := r_size1 (d := d) (M := M) n (s &&& (s - 1)) (c + 1) (by omega) (by omega)
      rw [L_X12_size_4]
      simp (disch := omega) only [q_ckt, q_lt, q_cI, q_cJ, q_cV, q_cP, q_xI, q_xV, q_xP, q_xJ, g_gk, g_ga, g_gw, g_gp, g_gq, g_P, g_J, q_I_s, q_I_n, q_I_k, nI_add, pk_sub, pk_mul, nI_clamp, n_lt0, n_0lt, n_eq0, n_lt, n_le, n_eq, n_m1, n_m2, n_m9, n_12, n_19, n_10, n_01, n_1n1, n_0n1, n_1n0, n_0n0, n_dI, n_m1lt, q_inb, n_nar, n_nar0, n_nar1, n_bool, Bool.false_eq_true, Bool.true_eq_false, if_true, if_false, ↓reduceIte, Nat.reduceAdd, Nat.reduceMul, Nat.reduceSub, Nat.reduceLT, Nat.reduceLeDiff, Nat.reduceEqDiff, Nat.reduceMod, Nat.reduceDiv, q, e, ih]
      rw [show c + 1 + k_card (s &&& (s - 1)) = c + k_card s by omega]
theorem r_size {d : Nat} {M : ir_M} {s : Nat} (h : s < 256) : m_X12_size (d + 1) (nI s) M = ir_oI (nI (k_card s)) M := by
  rw [E_X12_size, r_size1 s s 0 (Nat.le_refl _) h, Nat.zero_add]
theorem n_sub {a : Int32} {b : Nat} (hb : b < 256) (h : a &&& (nI b ^^^ (-1 : Int32)) = 0) : ∃ s, s < 256 ∧ a = nI s ∧ k_dif s b = 0 := by
  have ea : a = nI a.toBitVec.toNat := by
    apply n_bvI
    show a.toBitVec = BitVec.ofNat 32 a.toBitVec.toNat
    apply BitVec.eq_of_toNat_eq
    rw [BitVec.toNat_ofNat]
    exact (Nat.mod_eq_of_lt a.toBitVec.isLt).symm
  have bits : ∀ i, a.toBitVec.toNat.testBit i = true → b.testBit i = true := fun i hi => by
    have hi32 : i < 32 := by
      rcases Nat.lt_or_ge i 32 with q | q
      · exact q
      · rw [Nat.testBit_lt_two_pow (Nat.lt_of_lt_of_le a.toBitVec.isLt (Nat.pow_le_pow_right (by decide) q))] at hi
        exact nomatch hi
    have e : (a.toBitVec &&& (BitVec.ofNat 32 b ^^^ BitVec.allOnes 32)).getLsbD i = (0 : BitVec 32).getLsbD i := by
      have : a.toBitVec &&& (BitVec.ofNat 32 b ^^^ BitVec.allOnes 32) = (0 : BitVec 32) := congrArg Int32.toBitVec h
      rw [this]
    rw [BitVec.getLsbD_and, BitVec.getLsbD_xor, BitVec.getLsbD_ofNat, BitVec.getLsbD_allOnes, decide_eq_true hi32, ← BitVec.testBit_toNat, hi] at e
    cases eb : b.testBit i
    · rw [eb] at e
      simp at e
    · rfl
  refine ⟨a.toBitVec.toNat, k_lt256 fun i hi => ?_, ea, k_dif_0.mpr bits⟩
  cases e : a.toBitVec.toNat.testBit i
  · rfl
  · have := bits i e
    rw [k_256 hb hi] at this
    exact nomatch this
/-- is it a set of those in the queue -/
def k_set (K : Nat → Int32) (a : Int32) : Prop := a &&& (nI (k_mb K) ^^^ (-1 : Int32)) = 0
theorem c_ns2 {M : ir_M} {K : Nat → Int32} {d lo hi : Nat} {a : Int32} (h : c_rl M 12 K) (hh : hi < 100) (hl : lo < 100) : m_X11_needSet (d + 2) 1 a (nI lo) (nI hi) M = if a &&& (nI (k_mb K) ^^^ (-1 : Int32)) = 0 then (if k_bc a < nI lo then ir_oX 3 (ir_th M) else if nI hi < k_bc a then ir_oX 3 (ir_th M) else ir_oV M) else ir_oX 3 (ir_th M) := by
  rw [E_X11_needSet]
  simp (disch := omega) only [q_ckt, q_lt, q_cI, q_cJ, q_cV, q_cP, q_xI, q_xV, q_xP, q_xJ, g_gk, g_ga, g_gw, g_gp, g_gq, g_P, g_J, q_I_s, q_I_n, q_I_k, nI_add, pk_sub, pk_mul, nI_clamp, n_lt0, n_0lt, n_eq0, n_lt, n_le, n_eq, n_m1, n_m2, n_m9, n_12, n_19, n_10, n_01, n_1n1, n_0n1, n_1n0, n_0n0, n_dI, n_m1lt, q_inb, n_nar, n_nar0, n_nar1, n_bool, Bool.false_eq_true, Bool.true_eq_false, if_true, if_false, ↓reduceIte, Nat.reduceAdd, Nat.reduceMul, Nat.reduceSub, Nat.reduceLT, Nat.reduceLeDiff, Nat.reduceEqDiff, Nat.reduceMod, Nat.reduceDiv, c_bc, q_W h.1, q_S h.1 (a := 12) (by decide), c_mb h]
/-- what of a set stands where -/
theorem k_set_m {K : Nat → Int32} (hk : k_ok K) {s p : Nat} (hs : k_dif s (k_mb K) = 0) (hp : s.testBit p = true) : ∃ j, k_pl K p = some j := by
  have := k_dif_0.mp hs p hp
  rw [k_mb_bit hk] at this
  unfold k_mem at this
  cases e : k_pl K p with
  | none => rw [e] at this; exact nomatch this
  | some j => exact ⟨j, rfl⟩
/-- other askings, all good -/
theorem k_ok_a {K K' : Nat → Int32} (hk : k_ok K) (sa : k_sa K K') (ha : ∀ p, p < k_n K → ∃ g, g < k_g K ∧ K' (18 + p) = nI g) : k_ok K' := by
  have hb := k_bds hk
  obtain ⟨n1, n2, n3, n4, n5⟩ := k_sa_n sa
  refine ⟨k_okT_cg (fun k h1 h2 => sa k (by omega)) (fun k h1 => sa k (by omega)) hk.1, ?_⟩
  obtain ⟨s1, s2, s3, s4, s5, s6, s7, s8, s9, s10, s11⟩ := hk.2
  unfold k_okS
  rw [n1, n2, n3, n5, sa 9 (by omega), sa 43 (by omega), sa 44 (by omega)]
  refine ⟨s1, s2, fun i hi => ?_, fun i hi => ?_, fun i j hi hj e => ?_, fun p hp => ?_, fun p hp => ?_, s8, s9, s10, fun i hi => ?_⟩
  · rw [k_sa_q sa (by omega), sa _ (by omega)]
    exact s3 i hi
  · rw [k_sa_q sa (by omega)]
    exact s4 i hi
  · rw [k_sa_q sa (by omega), k_sa_q sa (by omega)] at e
    exact s5 i j hi hj e
  · obtain ⟨g, hg, e⟩ := ha p hp
    unfold k_a
    rw [e, nI_clamp (by omega)]
  · obtain ⟨g, hg, e⟩ := ha p hp
    unfold k_a
    rw [e, nI_clamp (by omega)]
    exact hg
  · rw [sa _ (by omega)]
    unfold k_gd
    rw [n2]
    exact s11 i hi
