/-! how a call's two sides make a step of the invariant -/
def r_ans (g : ir_M → ir_R) (M : ir_M) (v : Int32) (k : Nat) : Prop := ∃ M', g M = ir_oI v M' ∧ q_st 0 M M' ∧ M'.2.1 436 = M.2.1 436 ∧ ir_I M' 412 4 = nI k
def c_ans (f : ir_M → ir_R) (M : ir_M) (v : Int32) : Prop := ∃ M', f M = ir_oI v M' ∧ q_st 0 M M'
def c_W (f x : ir_M → ir_R) (hd : Nat → ir_M → ir_R) : Prop := ∀ M, f M = ir_ck (ir_gk M 1 11) (ir_bI (x M) (fun r2 M1 => ir_ck (ir_gw M1 436 101 (nI 0)) (ir_lt (ir_sJ M1 436 (nI 0).toNatClampNeg r2.toInt64) (fun M3 => ir_oI (nI 0) M3))) hd)
section SM
variable {L : Nat} {xs : Nat → Int32} {f g x : ir_M → ir_R} {hd : Nat → ir_M → ir_R}
theorem q_St_1 {j : Nat} {M : ir_M} (hw : c_W f x hd) (h : (∃ v, c_ans x M v ∧ ∀ M', q_st 0 M M' → r_ans g M' v 0) ∨ (∃ e k, 0 < k ∧ k < 9 ∧ x M = ir_oX e (ir_th M) ∧ (∀ M, hd e M = ir_oI (nI k) M) ∧ ∀ M', q_st 1 M M' → ∃ b, r_ans g M' b k)) (hI : q_Iv L xs j M) : ∃ k M1 b M2, f M = ir_oI k M1 ∧ q_PI M1 ∧ q_X L xs M1 ∧ g M1 = ir_oI b M2 ∧ M2.1 412 4 = k ∧ (k = 0 → M2.2.1 436 0 = b.toInt64) ∧ q_Iv L xs (j + 1) M2 := by
  have hp := hI.1
  rcases h with ⟨v, ⟨M1, e1, s1⟩, hr⟩ | ⟨e, k, k0, k9, e1, hh, hr⟩
  · have hJ := q_st_J s1.1.1 (k := 0) (v := v.toInt64)
    have s1' := s1.tr hJ
    obtain ⟨M2, e2, s2, h2, h4⟩ := hr _ s1'
    refine ⟨nI 0, ir_sJ M1 436 0 v.toInt64, v, M2, ?_, (q_Iv_X hI s1'.1).1, (q_Iv_X hI s1'.1).2, e2, h4, fun _ => ?_, q_Iv_st hI (s1'.tr s2) (by omega)⟩
    · rw [hw M, e1]
      simp (disch := omega) only [q_ckt, q_lt, q_cI, q_cJ, q_cV, q_cP, q_xI, q_xV, q_xP, q_xJ, g_gk, g_ga, g_gw, g_gp, g_gq, g_P, g_J, q_I_s, q_I_n, q_I_k, nI_add, pk_sub, pk_mul, nI_clamp, n_lt0, n_0lt, n_eq0, n_lt, n_le, n_eq, n_m1, n_m2, n_m9, n_12, n_19, n_10, n_01, n_1n1, n_0n1, n_1n0, n_0n0, n_dI, n_m1lt, q_inb, n_nar, n_nar0, n_nar1, n_bool, Bool.false_eq_true, Bool.true_eq_false, if_true, if_false, ↓reduceIte, Nat.reduceAdd, Nat.reduceMul, Nat.reduceSub, Nat.reduceLT, Nat.reduceLeDiff, Nat.reduceEqDiff, Nat.reduceMod, Nat.reduceDiv, q_W hp, q_bI1, q_R s1.1.1]
    · rw [h2]
      show (if 436 = 436 then vp_updL (M1.2.1 436) 0 v.toInt64 else M1.2.1 436) 0 = v.toInt64
      rw [if_pos rfl]
      exact pk_uLs
  · have s1 := q_st_th hp
    obtain ⟨b, M2, e2, s2, h2, h4⟩ := hr _ s1
    refine ⟨nI k, ir_th M, b, M2, ?_, (q_Iv_X hI s1.1).1, (q_Iv_X hI s1.1).2, e2, h4, fun q => ?_, q_Iv_st hI (s1.tr s2) (by omega)⟩
    · rw [hw M, e1]
      simp (disch := omega) only [q_ckt, q_lt, q_cI, q_cJ, q_cV, q_cP, q_xI, q_xV, q_xP, q_xJ, g_gk, g_ga, g_gw, g_gp, g_gq, g_P, g_J, q_I_s, q_I_n, q_I_k, nI_add, pk_sub, pk_mul, nI_clamp, n_lt0, n_0lt, n_eq0, n_lt, n_le, n_eq, n_m1, n_m2, n_m9, n_12, n_19, n_10, n_01, n_1n1, n_0n1, n_1n0, n_0n0, n_dI, n_m1lt, q_inb, n_nar, n_nar0, n_nar1, n_bool, Bool.false_eq_true, Bool.true_eq_false, if_true, if_false, ↓reduceIte, Nat.reduceAdd, Nat.reduceMul, Nat.reduceSub, Nat.reduceLT, Nat.reduceLeDiff, Nat.reduceEqDiff, Nat.reduceMod, Nat.reduceDiv, q_W hp, q_bI2, hh]
    · rw [n_eq0 (by omega)] at q
      omega
theorem q_St_mk (hw : c_W f x hd) (h : ∀ M, q_PI M → c_I M → (∃ v, c_ans x M v ∧ ∀ M', q_st 0 M M' → r_ans g M' v 0) ∨ (∃ e k, 0 < k ∧ k < 9 ∧ x M = ir_oX e (ir_th M) ∧ (∀ M, hd e M = ir_oI (nI k) M) ∧ ∀ M', q_st 1 M M' → ∃ b, r_ans g M' b k)) : q_St L xs (q_Iv L xs) f g := fun _ M hI => q_St_1 hw (h M hI.1 hI.2.2.2.2) hI
theorem q_Sp_mk (h : ∀ M, q_PI M → c_I M → ∃ v M1, f M = ir_oI v M1 ∧ q_st 0 M M1 ∧ ∃ M2, g M1 = ir_oI v M2 ∧ q_st 0 M1 M2) : q_Sp L xs (q_Iv L xs) f g := by
  intro j M hI
  obtain ⟨v, M1, e1, s1, M2, e2, s2⟩ := h M hI.1 hI.2.2.2.2
  exact ⟨v, M1, M2, e1, (q_Iv_X hI s1.1).1, (q_Iv_X hI s1.1).2, e2, q_Iv_st hI (s1.tr s2) (by omega)⟩
end SM
/-! numbers that come from outside -/
def k_rng (x : Int32) (n : Nat) : Bool := decide (0 ≤ x.toInt ∧ x.toInt < (n : Int))
theorem k_rng_i {x : Int32} {n : Nat} : (k_rng x n = true) = (0 ≤ x.toInt ∧ x.toInt < (n : Int)) := propext decide_eq_true_iff
theorem k_rng_nI {p n : Nat} (hp : p < n) (hn : n < 2 ^ 31) : k_rng (nI p) n = true := by
  rw [k_rng_i, nI_toInt (by omega)]
  omega
theorem k_rng_of {x : Int32} {n : Nat} (h : k_rng x n = true) (hn : n < 2 ^ 31) : ∃ p : Nat, p < n ∧ x = nI p := by
  rw [k_rng_i] at h
  refine ⟨x.toInt.toNat, by have := h.1; have := h.2; omega, ?_⟩
  rw [← Int32.toInt_inj, nI_toInt (by have := h.1; have := h.2; omega)]
  have := h.1
  omega
theorem k_rng_c {x : Int32} {n : Nat} {α : Type} {a b : α} (hn : n < 2 ^ 31) : (if x < 0 then b else if x < nI n then a else b) = if k_rng x n = true then a else b := by
  have e0 : x < 0 ↔ x.toInt < 0 := Int32.lt_iff_toInt_lt
  have e1 : x < nI n ↔ x.toInt < n := by rw [Int32.lt_iff_toInt_lt, nI_toInt hn]
  by_cases h : k_rng x n = true
  · rw [if_pos h]
    rw [k_rng_i] at h
    rw [if_neg (fun q => by have := e0.mp q; have := h.1; omega), if_pos (e1.mpr h.2)]
  · rw [if_neg h]
    rw [k_rng_i] at h
    by_cases q : x < 0
    · rw [if_pos q]
    · rw [if_neg q, if_neg (fun w => h ⟨by have z : ¬ x.toInt < 0 := fun z => q (e0.mpr z); omega, e1.mp w⟩)]
section NB
variable {M : ir_M} {K : Nat → Int32} {d : Nat}
theorem c_np (h : c_rl M 12 K) {x : Int32} : m_X11_needPerson (d + 1) 1 x M = if k_rng x (k_n K) then ir_oV M else ir_oX 1 (ir_th M) := by
  have hb := k_bds h.2.2.1
  rw [E_X11_needPerson]
  simp (disch := omega) only [q_ckt, q_lt, q_cI, q_cJ, q_cV, q_cP, q_xI, q_xV, q_xP, q_xJ, g_gk, g_ga, g_gw, g_gp, g_gq, g_P, g_J, q_I_s, q_I_n, q_I_k, nI_add, pk_sub, pk_mul, nI_clamp, n_lt0, n_0lt, n_eq0, n_lt, n_le, n_eq, n_m1, n_m2, n_m9, n_12, n_19, n_10, n_01, n_1n1, n_0n1, n_1n0, n_0n0, n_dI, n_m1lt, q_inb, n_nar, n_nar0, n_nar1, n_bool, Bool.false_eq_true, Bool.true_eq_false, if_true, if_false, ↓reduceIte, Nat.reduceAdd, Nat.reduceMul, Nat.reduceSub, Nat.reduceLT, Nat.reduceLeDiff, Nat.reduceEqDiff, Nat.reduceMod, Nat.reduceDiv, q_W h.1, q_T h.1, c_use h]
  exact k_rng_c (by omega)
theorem c_ng (h : c_rl M 12 K) {x : Int32} : m_X11_needGood (d + 1) 1 x M = if k_rng x (k_g K) then ir_oV M else ir_oX 1 (ir_th M) := by
  have hb := k_bds h.2.2.1
  rw [E_X11_needGood]
  simp (disch := omega) only [q_ckt, q_lt, q_cI, q_cJ, q_cV, q_cP, q_xI, q_xV, q_xP, q_xJ, g_gk, g_ga, g_gw, g_gp, g_gq, g_P, g_J, q_I_s, q_I_n, q_I_k, nI_add, pk_sub, pk_mul, nI_clamp, n_lt0, n_0lt, n_eq0, n_lt, n_le, n_eq, n_m1, n_m2, n_m9, n_12, n_19, n_10, n_01, n_1n1, n_0n1, n_1n0, n_0n0, n_dI, n_m1lt, q_inb, n_nar, n_nar0, n_nar1, n_bool, Bool.false_eq_true, Bool.true_eq_false, if_true, if_false, ↓reduceIte, Nat.reduceAdd, Nat.reduceMul, Nat.reduceSub, Nat.reduceLT, Nat.reduceLeDiff, Nat.reduceEqDiff, Nat.reduceMod, Nat.reduceDiv, q_W h.1, q_T h.1, c_use h]
  exact k_rng_c (by omega)
theorem c_ns (h : c_rl M 12 K) {p : Nat} (hp : p < k_n K) : m_X11_needStanding (d + 2) 1 (nI p) M = match k_pl K p with
    | some i => ir_oI (nI i) M
    | none => ir_oX 2 (ir_th M) := by
  have hb := k_bds h.2.2.1
  rw [E_X11_needStanding]
  simp (disch := omega) only [q_ckt, q_lt, q_cI, q_cJ, q_cV, q_cP, q_xI, q_xV, q_xP, q_xJ, g_gk, g_ga, g_gw, g_gp, g_gq, g_P, g_J, q_I_s, q_I_n, q_I_k, nI_add, pk_sub, pk_mul, nI_clamp, n_lt0, n_0lt, n_eq0, n_lt, n_le, n_eq, n_m1, n_m2, n_m9, n_12, n_19, n_10, n_01, n_1n1, n_0n1, n_1n0, n_0n0, n_dI, n_m1lt, q_inb, n_nar, n_nar0, n_nar1, n_bool, Bool.false_eq_true, Bool.true_eq_false, if_true, if_false, ↓reduceIte, Nat.reduceAdd, Nat.reduceMul, Nat.reduceSub, Nat.reduceLT, Nat.reduceLeDiff, Nat.reduceEqDiff, Nat.reduceMod, Nat.reduceDiv, q_W h.1, q_S h.1 h.2.1, c_pl h (show p < 2 ^ 31 by omega)]
  cases e : k_pl K p with
  | none => simp (disch := omega) only [q_ckt, q_lt, q_cI, q_cJ, q_cV, q_cP, q_xI, q_xV, q_xP, q_xJ, g_gk, g_ga, g_gw, g_gp, g_gq, g_P, g_J, q_I_s, q_I_n, q_I_k, nI_add, pk_sub, pk_mul, nI_clamp, n_lt0, n_0lt, n_eq0, n_lt, n_le, n_eq, n_m1, n_m2, n_m9, n_12, n_19, n_10, n_01, n_1n1, n_0n1, n_1n0, n_0n0, n_dI, n_m1lt, q_inb, n_nar, n_nar0, n_nar1, n_bool, Bool.false_eq_true, Bool.true_eq_false, if_true, if_false, ↓reduceIte, Nat.reduceAdd, Nat.reduceMul, Nat.reduceSub, Nat.reduceLT, Nat.reduceLeDiff, Nat.reduceEqDiff, Nat.reduceMod, Nat.reduceDiv, k_on]
  | some i =>
    have := (k_pl_some e).1
    simp (disch := omega) only [q_ckt, q_lt, q_cI, q_cJ, q_cV, q_cP, q_xI, q_xV, q_xP, q_xJ, g_gk, g_ga, g_gw, g_gp, g_gq, g_P, g_J, q_I_s, q_I_n, q_I_k, nI_add, pk_sub, pk_mul, nI_clamp, n_lt0, n_0lt, n_eq0, n_lt, n_le, n_eq, n_m1, n_m2, n_m9, n_12, n_19, n_10, n_01, n_1n1, n_0n1, n_1n0, n_0n0, n_dI, n_m1lt, q_inb, n_nar, n_nar0, n_nar1, n_bool, Bool.false_eq_true, Bool.true_eq_false, if_true, if_false, ↓reduceIte, Nat.reduceAdd, Nat.reduceMul, Nat.reduceSub, Nat.reduceLT, Nat.reduceLeDiff, Nat.reduceEqDiff, Nat.reduceMod, Nat.reduceDiv, k_on]
theorem c_ip (h : c_rl M 12 K) {x : Int32} : m_X11_isPlace (d + 1) 1 x M = ir_oI (if k_rng x (k_m K) then nI 1 else nI 0) M := by
  have hb := k_bds h.2.2.1
  rw [E_X11_isPlace]
  simp (disch := omega) only [q_ckt, q_lt, q_cI, q_cJ, q_cV, q_cP, q_xI, q_xV, q_xP, q_xJ, g_gk, g_ga, g_gw, g_gp, g_gq, g_P, g_J, q_I_s, q_I_n, q_I_k, nI_add, pk_sub, pk_mul, nI_clamp, n_lt0, n_0lt, n_eq0, n_lt, n_le, n_eq, n_m1, n_m2, n_m9, n_12, n_19, n_10, n_01, n_1n1, n_0n1, n_1n0, n_0n0, n_dI, n_m1lt, q_inb, n_nar, n_nar0, n_nar1, n_bool, Bool.false_eq_true, Bool.true_eq_false, if_true, if_false, ↓reduceIte, Nat.reduceAdd, Nat.reduceMul, Nat.reduceSub, Nat.reduceLT, Nat.reduceLeDiff, Nat.reduceEqDiff, Nat.reduceMod, Nat.reduceDiv, q_W h.1, q_S h.1 h.2.1, c_use h]
  rw [k_rng_c (by omega)]
  split <;> rfl
theorem r_within {a b c : Int64} : m_X12_within (d + 1) a b c M = ir_oI (if b.toInt ≤ a.toInt ∧ a.toInt ≤ c.toInt then nI 1 else nI 0) M := by
  rw [E_X12_within]
  simp (disch := omega) only [q_ckt, q_lt, q_cI, q_cJ, q_cV, q_cP, q_xI, q_xV, q_xP, q_xJ, g_gk, g_ga, g_gw, g_gp, g_gq, g_P, g_J, q_I_s, q_I_n, q_I_k, nI_add, pk_sub, pk_mul, nI_clamp, n_lt0, n_0lt, n_eq0, n_lt, n_le, n_eq, n_m1, n_m2, n_m9, n_12, n_19, n_10, n_01, n_1n1, n_0n1, n_1n0, n_0n0, n_dI, n_m1lt, q_inb, n_nar, n_nar0, n_nar1, n_bool, Bool.false_eq_true, Bool.true_eq_false, if_true, if_false, ↓reduceIte, Nat.reduceAdd, Nat.reduceMul, Nat.reduceSub, Nat.reduceLT, Nat.reduceLeDiff, Nat.reduceEqDiff, Nat.reduceMod, Nat.reduceDiv]
  have e0 : lg_cmp a b < 0 ↔ a.toInt < b.toInt := (k_c1 a b).trans Int64.lt_iff_toInt_lt
  have e1 : 0 < lg_cmp a c ↔ c.toInt < a.toInt := (k_c2 a c).trans Int64.lt_iff_toInt_lt
  by_cases h : b.toInt ≤ a.toInt ∧ a.toInt ≤ c.toInt
  · rw [if_pos h, if_neg (fun q => by have := e0.mp q; omega), if_neg (fun q => by have := e1.mp q; omega)]
  · rw [if_neg h]
    by_cases q : lg_cmp a b < 0
    · rw [if_pos q]
    · rw [if_neg q, if_pos (e1.mpr (by have z : ¬ a.toInt < b.toInt := fun z => q (e0.mpr z); omega))]
theorem k_lim {n : Nat} (hn : n ≤ 100) : ((nI n - nI 1).toInt64).toInt = (n : Int) - 1 := by
  rw [Int32.toInt_toInt64, pk_sub_toInt (by omega) (by omega)]
  rfl
theorem k_lim0 : (0 : Int64).toInt = 0 := by decide +kernel
theorem k_wi {v : Int32} {n : Nat} (hn : n ≤ 100) : ((0 : Int64).toInt ≤ v.toInt64.toInt ∧ v.toInt64.toInt ≤ ((nI n - nI 1).toInt64).toInt) = (k_rng v n = true) := by
  rw [k_lim hn, k_lim0, Int32.toInt_toInt64, k_rng_i]
  exact propext ⟨fun h => ⟨h.1, by omega⟩, fun h => ⟨h.1, by omega⟩⟩
theorem r_ib (h : r_rl M K) {x : Int32} : m_X12_isBody (d + 2) 412 x.toInt64 M = ir_oI (if k_rng x (k_n K) then nI 1 else nI 0) M := by
  have hb := k_bds h.2.1
  rw [E_X12_isBody, q_ck (q_k412 h.1), r_pe h, q_cI, r_within, q_cI]
  simp only [k_wi (show k_n K ≤ 100 by omega)]
  split <;> simp (disch := omega) only [q_ckt, q_lt, q_cI, q_cJ, q_cV, q_cP, q_xI, q_xV, q_xP, q_xJ, g_gk, g_ga, g_gw, g_gp, g_gq, g_P, g_J, q_I_s, q_I_n, q_I_k, nI_add, pk_sub, pk_mul, nI_clamp, n_lt0, n_0lt, n_eq0, n_lt, n_le, n_eq, n_m1, n_m2, n_m9, n_12, n_19, n_10, n_01, n_1n1, n_0n1, n_1n0, n_0n0, n_dI, n_m1lt, q_inb, n_nar, n_nar0, n_nar1, n_bool, Bool.false_eq_true, Bool.true_eq_false, if_true, if_false, ↓reduceIte, Nat.reduceAdd, Nat.reduceMul, Nat.reduceSub, Nat.reduceLT, Nat.reduceLeDiff, Nat.reduceEqDiff, Nat.reduceMod, Nat.reduceDiv]
theorem r_ig (h : r_rl M K) {x : Int32} : m_X12_isGood (d + 2) 412 x.toInt64 M = ir_oI (if k_rng x (k_g K) then nI 1 else nI 0) M := by
  have hb := k_bds h.2.1
  rw [E_X12_isGood, q_ck (q_k412 h.1), r_go h, q_cI, r_within, q_cI]
  simp only [k_wi (show k_g K ≤ 100 by omega)]
  split <;> simp (disch := omega) only [q_ckt, q_lt, q_cI, q_cJ, q_cV, q_cP, q_xI, q_xV, q_xP, q_xJ, g_gk, g_ga, g_gw, g_gp, g_gq, g_P, g_J, q_I_s, q_I_n, q_I_k, nI_add, pk_sub, pk_mul, nI_clamp, n_lt0, n_0lt, n_eq0, n_lt, n_le, n_eq, n_m1, n_m2, n_m9, n_12, n_19, n_10, n_01, n_1n1, n_0n1, n_1n0, n_0n0, n_dI, n_m1lt, q_inb, n_nar, n_nar0, n_nar1, n_bool, Bool.false_eq_true, Bool.true_eq_false, if_true, if_false, ↓reduceIte, Nat.reduceAdd, Nat.reduceMul, Nat.reduceSub, Nat.reduceLT, Nat.reduceLeDiff, Nat.reduceEqDiff, Nat.reduceMod, Nat.reduceDiv]
theorem r_is (h : r_rl M K) {x : Int32} : m_X12_isStand (d + 2) 412 x.toInt64 M = ir_oI (if k_rng x (k_m K) then nI 1 else nI 0) M := by
  have hb := k_bds h.2.1
  rw [E_X12_isStand, q_ck (q_k412 h.1), r_qd h, q_cI, r_within, q_cI]
  simp only [k_wi (show k_m K ≤ 100 by omega)]
  split <;> simp (disch := omega) only [q_ckt, q_lt, q_cI, q_cJ, q_cV, q_cP, q_xI, q_xV, q_xP, q_xJ, g_gk, g_ga, g_gw, g_gp, g_gq, g_P, g_J, q_I_s, q_I_n, q_I_k, nI_add, pk_sub, pk_mul, nI_clamp, n_lt0, n_0lt, n_eq0, n_lt, n_le, n_eq, n_m1, n_m2, n_m9, n_12, n_19, n_10, n_01, n_1n1, n_0n1, n_1n0, n_0n0, n_dI, n_m1lt, q_inb, n_nar, n_nar0, n_nar1, n_bool, Bool.false_eq_true, Bool.true_eq_false, if_true, if_false, ↓reduceIte, Nat.reduceAdd, Nat.reduceMul, Nat.reduceSub, Nat.reduceLT, Nat.reduceLeDiff, Nat.reduceEqDiff, Nat.reduceMod, Nat.reduceDiv]
theorem r_bf1 (h : r_rl M K) {p : Nat} (hp : p < k_n K) : m_X12_bodyFault (d + 3) 412 (nI p) M = match k_pl K p with
    | some _ => ir_oI (nI 0) M
    | none => ir_oI (nI 2) M := by
  have hb := k_bds h.2.1
  rw [E_X12_bodyFault]
  simp (disch := omega) only [q_ckt, q_lt, q_cI, q_cJ, q_cV, q_cP, q_xI, q_xV, q_xP, q_xJ, g_gk, g_ga, g_gw, g_gp, g_gq, g_P, g_J, q_I_s, q_I_n, q_I_k, nI_add, pk_sub, pk_mul, nI_clamp, n_lt0, n_0lt, n_eq0, n_lt, n_le, n_eq, n_m1, n_m2, n_m9, n_12, n_19, n_10, n_01, n_1n1, n_0n1, n_1n0, n_0n0, n_dI, n_m1lt, q_inb, n_nar, n_nar0, n_nar1, n_bool, Bool.false_eq_true, Bool.true_eq_false, if_true, if_false, ↓reduceIte, Nat.reduceAdd, Nat.reduceMul, Nat.reduceSub, Nat.reduceLT, Nat.reduceLeDiff, Nat.reduceEqDiff, Nat.reduceMod, Nat.reduceDiv, q_R h.1, r_ib h, k_rng_nI hp, r_placeOf h (show p < 2 ^ 31 by omega)]
  cases e : k_pl K p with
  | none => simp (disch := omega) only [q_ckt, q_lt, q_cI, q_cJ, q_cV, q_cP, q_xI, q_xV, q_xP, q_xJ, g_gk, g_ga, g_gw, g_gp, g_gq, g_P, g_J, q_I_s, q_I_n, q_I_k, nI_add, pk_sub, pk_mul, nI_clamp, n_lt0, n_0lt, n_eq0, n_lt, n_le, n_eq, n_m1, n_m2, n_m9, n_12, n_19, n_10, n_01, n_1n1, n_0n1, n_1n0, n_0n0, n_dI, n_m1lt, q_inb, n_nar, n_nar0, n_nar1, n_bool, Bool.false_eq_true, Bool.true_eq_false, if_true, if_false, ↓reduceIte, Nat.reduceAdd, Nat.reduceMul, Nat.reduceSub, Nat.reduceLT, Nat.reduceLeDiff, Nat.reduceEqDiff, Nat.reduceMod, Nat.reduceDiv, k_on]
  | some i =>
    have := (k_pl_some e).1
    simp (disch := omega) only [q_ckt, q_lt, q_cI, q_cJ, q_cV, q_cP, q_xI, q_xV, q_xP, q_xJ, g_gk, g_ga, g_gw, g_gp, g_gq, g_P, g_J, q_I_s, q_I_n, q_I_k, nI_add, pk_sub, pk_mul, nI_clamp, n_lt0, n_0lt, n_eq0, n_lt, n_le, n_eq, n_m1, n_m2, n_m9, n_12, n_19, n_10, n_01, n_1n1, n_0n1, n_1n0, n_0n0, n_dI, n_m1lt, q_inb, n_nar, n_nar0, n_nar1, n_bool, Bool.false_eq_true, Bool.true_eq_false, if_true, if_false, ↓reduceIte, Nat.reduceAdd, Nat.reduceMul, Nat.reduceSub, Nat.reduceLT, Nat.reduceLeDiff, Nat.reduceEqDiff, Nat.reduceMod, Nat.reduceDiv, k_on]
theorem r_bf0 (h : r_rl M K) {x : Int32} (hx : ¬ k_rng x (k_n K)) : m_X12_bodyFault (d + 3) 412 x M = ir_oI (nI 1) M := by
  rw [E_X12_bodyFault]
  simp (disch := omega) only [q_ckt, q_lt, q_cI, q_cJ, q_cV, q_cP, q_xI, q_xV, q_xP, q_xJ, g_gk, g_ga, g_gw, g_gp, g_gq, g_P, g_J, q_I_s, q_I_n, q_I_k, nI_add, pk_sub, pk_mul, nI_clamp, n_lt0, n_0lt, n_eq0, n_lt, n_le, n_eq, n_m1, n_m2, n_m9, n_12, n_19, n_10, n_01, n_1n1, n_0n1, n_1n0, n_0n0, n_dI, n_m1lt, q_inb, n_nar, n_nar0, n_nar1, n_bool, Bool.false_eq_true, Bool.true_eq_false, if_true, if_false, ↓reduceIte, Nat.reduceAdd, Nat.reduceMul, Nat.reduceSub, Nat.reduceLT, Nat.reduceLeDiff, Nat.reduceEqDiff, Nat.reduceMod, Nat.reduceDiv, q_R h.1, r_ib h, hx]
theorem r_fails (h : q_PI M) {k : Nat} : m_X12_fails (d + 1) 412 (nI k) M = ir_oI (nI 0) (ir_sI M 412 4 (nI k)) := by
  rw [E_X12_fails]
  simp (disch := omega) only [q_ckt, q_lt, q_cI, q_cJ, q_cV, q_cP, q_xI, q_xV, q_xP, q_xJ, g_gk, g_ga, g_gw, g_gp, g_gq, g_P, g_J, q_I_s, q_I_n, q_I_k, nI_add, pk_sub, pk_mul, nI_clamp, n_lt0, n_0lt, n_eq0, n_lt, n_le, n_eq, n_m1, n_m2, n_m9, n_12, n_19, n_10, n_01, n_1n1, n_0n1, n_1n0, n_0n0, n_dI, n_m1lt, q_inb, n_nar, n_nar0, n_nar1, n_bool, Bool.false_eq_true, Bool.true_eq_false, if_true, if_false, ↓reduceIte, Nat.reduceAdd, Nat.reduceMul, Nat.reduceSub, Nat.reduceLT, Nat.reduceLeDiff, Nat.reduceEqDiff, Nat.reduceMod, Nat.reduceDiv, q_R h]
/-- thrown is laid -/
theorem r_4 (h : r_rl M K) {v : Int32} : r_rl (ir_sI M 412 4 v) K := q_st_r (q_st_4 h.1 rfl) h
end NB
