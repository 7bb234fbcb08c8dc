/-! trays, told deeds -/
section TY
variable {M : ir_M} {K : Nat → Int32} {d s i : Nat}
theorem q_Yt (h : q_PI M) (hi : i < 4) : ir_gk M (404 + 2 * i) 10 = true ∧ ir_gq M (404 + 2 * i) 10 = true ∧ (∀ j, ir_ga M (405 + 2 * i) 101 j = ir_inb j 30) ∧ (∀ j, ir_gw M (405 + 2 * i) 101 j = ir_inb j 30) ∧ ir_P M 99 i = 404 + 2 * i ∧ ir_P M (404 + 2 * i) 3 = 405 + 2 * i ∧ ir_gp M (404 + 2 * i) 10 3 = true ∧ (∀ j, ir_ga M 99 107 j = ir_inb j 4) := by
  have : i = 0 ∨ i = 1 ∨ i = 2 ∨ i = 3 := by omega
  rcases this with rfl | rfl | rfl | rfl
  · exact ⟨q_k404 h, q_q404 h, q_a405 h, q_w405 h, q_p99_0 h, q_p404_3 h, q_g404_3 h, q_a99 h⟩
  · exact ⟨q_k406 h, q_q406 h, q_a407 h, q_w407 h, q_p99_1 h, q_p406_3 h, q_g406_3 h, q_a99 h⟩
  · exact ⟨q_k408 h, q_q408 h, q_a409 h, q_w409 h, q_p99_2 h, q_p408_3 h, q_g408_3 h, q_a99 h⟩
  · exact ⟨q_k410 h, q_q410 h, q_a411 h, q_w411 h, q_p99_3 h, q_p410_3 h, q_g410_3 h, q_a99 h⟩
theorem c_it {x : Int32} : m_X11_isTray (d + 1) x M = ir_oI (if k_rng x 4 then nI 1 else nI 0) M := by
  rw [E_X11_isTray]
  simp (disch := omega) only [q_ckt, q_lt, q_cI, q_cJ, q_cV, q_cP, q_xI, q_xV, q_xP, q_xJ, g_gk, g_ga, g_gw, g_gp, g_gq, g_P, g_J, q_I_s, q_I_n, q_I_k, nI_add, pk_sub, pk_mul, nI_clamp, n_lt0, n_0lt, n_eq0, n_lt, n_le, n_eq, n_m1, n_m2, n_m9, n_12, n_19, n_10, n_01, n_1n1, n_0n1, n_1n0, n_0n0, n_dI, n_m1lt, q_inb, n_nar, n_nar0, n_nar1, n_bool, Bool.false_eq_true, Bool.true_eq_false, if_true, if_false, ↓reduceIte, Nat.reduceAdd, Nat.reduceMul, Nat.reduceSub, Nat.reduceLT, Nat.reduceLeDiff, Nat.reduceEqDiff, Nat.reduceMod, Nat.reduceDiv]
  rw [k_rng_c (by decide)]
  split <;> rfl
theorem r_it {x : Int32} : m_X12_isTray (d + 2) x M = ir_oI (if k_rng x 4 then nI 1 else nI 0) M := by
  rw [E_X12_isTray, r_within, q_cI]
  simp only [k_wir (c := 3) (n := 3) (by decide +kernel)]
  split <;> simp (disch := omega) only [q_ckt, q_lt, q_cI, q_cJ, q_cV, q_cP, q_xI, q_xV, q_xP, q_xJ, g_gk, g_ga, g_gw, g_gp, g_gq, g_P, g_J, q_I_s, q_I_n, q_I_k, nI_add, pk_sub, pk_mul, nI_clamp, n_lt0, n_0lt, n_eq0, n_lt, n_le, n_eq, n_m1, n_m2, n_m9, n_12, n_19, n_10, n_01, n_1n1, n_0n1, n_1n0, n_0n0, n_dI, n_m1lt, q_inb, n_nar, n_nar0, n_nar1, n_bool, Bool.false_eq_true, Bool.true_eq_false, if_true, if_false, ↓reduceIte, Nat.reduceAdd, Nat.reduceMul, Nat.reduceSub, Nat.reduceLT, Nat.reduceLeDiff, Nat.reduceEqDiff, Nat.reduceMod, Nat.reduceDiv]
theorem c_nt0 (hp : q_PI M) {x : Int32} (hx : ¬ k_rng x 4 = true) : m_X11_needTray (d + 2) 1 x M = ir_oX 1 (ir_th M) := by
  rw [E_X11_needTray]
  simp (disch := omega) only [q_ckt, q_lt, q_cI, q_cJ, q_cV, q_cP, q_xI, q_xV, q_xP, q_xJ, g_gk, g_ga, g_gw, g_gp, g_gq, g_P, g_J, q_I_s, q_I_n, q_I_k, nI_add, pk_sub, pk_mul, nI_clamp, n_lt0, n_0lt, n_eq0, n_lt, n_le, n_eq, n_m1, n_m2, n_m9, n_12, n_19, n_10, n_01, n_1n1, n_0n1, n_1n0, n_0n0, n_dI, n_m1lt, q_inb, n_nar, n_nar0, n_nar1, n_bool, Bool.false_eq_true, Bool.true_eq_false, if_true, if_false, ↓reduceIte, Nat.reduceAdd, Nat.reduceMul, Nat.reduceSub, Nat.reduceLT, Nat.reduceLeDiff, Nat.reduceEqDiff, Nat.reduceMod, Nat.reduceDiv, c_it, hx]
theorem c_nt1 (hp : q_PI M) (hi : i < 4) (h : ir_I M (404 + 2 * i) 0 = 1) : m_X11_needTray (d + 2) 1 (nI i) M = ir_oX 2 (ir_th M) := by
  rw [E_X11_needTray]
  simp (disch := omega) only [q_ckt, q_lt, q_cI, q_cJ, q_cV, q_cP, q_xI, q_xV, q_xP, q_xJ, g_gk, g_ga, g_gw, g_gp, g_gq, g_P, g_J, q_I_s, q_I_n, q_I_k, nI_add, pk_sub, pk_mul, nI_clamp, n_lt0, n_0lt, n_eq0, n_lt, n_le, n_eq, n_m1, n_m2, n_m9, n_12, n_19, n_10, n_01, n_1n1, n_0n1, n_1n0, n_0n0, n_dI, n_m1lt, q_inb, n_nar, n_nar0, n_nar1, n_bool, Bool.false_eq_true, Bool.true_eq_false, if_true, if_false, ↓reduceIte, Nat.reduceAdd, Nat.reduceMul, Nat.reduceSub, Nat.reduceLT, Nat.reduceLeDiff, Nat.reduceEqDiff, Nat.reduceMod, Nat.reduceDiv, c_it, k_rng_nI hi (by decide), q_W hp, q_Yt hp hi, h, n_blt, Bool.or_true, Bool.and_self]
theorem c_nt2 (hp : q_PI M) (hi : i < 4) (h : ir_I M (404 + 2 * i) 0 = 0) : m_X11_needTray (d + 2) 1 (nI i) M = ir_oP (404 + 2 * i) M := by
  rw [E_X11_needTray]
  simp (disch := omega) only [q_ckt, q_lt, q_cI, q_cJ, q_cV, q_cP, q_xI, q_xV, q_xP, q_xJ, g_gk, g_ga, g_gw, g_gp, g_gq, g_P, g_J, q_I_s, q_I_n, q_I_k, nI_add, pk_sub, pk_mul, nI_clamp, n_lt0, n_0lt, n_eq0, n_lt, n_le, n_eq, n_m1, n_m2, n_m9, n_12, n_19, n_10, n_01, n_1n1, n_0n1, n_1n0, n_0n0, n_dI, n_m1lt, q_inb, n_nar, n_nar0, n_nar1, n_bool, Bool.false_eq_true, Bool.true_eq_false, if_true, if_false, ↓reduceIte, Nat.reduceAdd, Nat.reduceMul, Nat.reduceSub, Nat.reduceLT, Nat.reduceLeDiff, Nat.reduceEqDiff, Nat.reduceMod, Nat.reduceDiv, c_it, k_rng_nI hi (by decide), q_W hp, q_Yt hp hi, h, n_blt, Bool.or_true, Bool.and_self]
theorem r_tf0 (hp : q_PI M) {x : Int32} (hx : ¬ k_rng x 4 = true) : m_X12_trayFault (d + 3) 412 x M = ir_oI (nI 1) M := by
  rw [E_X12_trayFault]
  simp (disch := omega) only [q_ckt, q_lt, q_cI, q_cJ, q_cV, q_cP, q_xI, q_xV, q_xP, q_xJ, g_gk, g_ga, g_gw, g_gp, g_gq, g_P, g_J, q_I_s, q_I_n, q_I_k, nI_add, pk_sub, pk_mul, nI_clamp, n_lt0, n_0lt, n_eq0, n_lt, n_le, n_eq, n_m1, n_m2, n_m9, n_12, n_19, n_10, n_01, n_1n1, n_0n1, n_1n0, n_0n0, n_dI, n_m1lt, q_inb, n_nar, n_nar0, n_nar1, n_bool, Bool.false_eq_true, Bool.true_eq_false, if_true, if_false, ↓reduceIte, Nat.reduceAdd, Nat.reduceMul, Nat.reduceSub, Nat.reduceLT, Nat.reduceLeDiff, Nat.reduceEqDiff, Nat.reduceMod, Nat.reduceDiv, r_it, hx]
theorem r_tf1 (hp : q_PI M) (hi : i < 4) (h : ir_I M 433 i = -1) : m_X12_trayFault (d + 3) 412 (nI i) M = ir_oI (nI 2) M := by
  rw [E_X12_trayFault]
  simp (disch := omega) only [q_ckt, q_lt, q_cI, q_cJ, q_cV, q_cP, q_xI, q_xV, q_xP, q_xJ, g_gk, g_ga, g_gw, g_gp, g_gq, g_P, g_J, q_I_s, q_I_n, q_I_k, nI_add, pk_sub, pk_mul, nI_clamp, n_lt0, n_0lt, n_eq0, n_lt, n_le, n_eq, n_m1, n_m2, n_m9, n_12, n_19, n_10, n_01, n_1n1, n_0n1, n_1n0, n_0n0, n_dI, n_m1lt, q_inb, n_nar, n_nar0, n_nar1, n_bool, Bool.false_eq_true, Bool.true_eq_false, if_true, if_false, ↓reduceIte, Nat.reduceAdd, Nat.reduceMul, Nat.reduceSub, Nat.reduceLT, Nat.reduceLeDiff, Nat.reduceEqDiff, Nat.reduceMod, Nat.reduceDiv, r_it, k_rng_nI hi (by decide), q_R hp, h]
theorem r_tf2 (hp : q_PI M) (hi : i < 4) {so : Nat} (hs : so < 4) (h : ir_I M 433 i = nI so) : m_X12_trayFault (d + 3) 412 (nI i) M = ir_oI (nI 0) M := by
  rw [E_X12_trayFault]
  simp (disch := omega) only [q_ckt, q_lt, q_cI, q_cJ, q_cV, q_cP, q_xI, q_xV, q_xP, q_xJ, g_gk, g_ga, g_gw, g_gp, g_gq, g_P, g_J, q_I_s, q_I_n, q_I_k, nI_add, pk_sub, pk_mul, nI_clamp, n_lt0, n_0lt, n_eq0, n_lt, n_le, n_eq, n_m1, n_m2, n_m9, n_12, n_19, n_10, n_01, n_1n1, n_0n1, n_1n0, n_0n0, n_dI, n_m1lt, q_inb, n_nar, n_nar0, n_nar1, n_bool, Bool.false_eq_true, Bool.true_eq_false, if_true, if_false, ↓reduceIte, Nat.reduceAdd, Nat.reduceMul, Nat.reduceSub, Nat.reduceLT, Nat.reduceLeDiff, Nat.reduceEqDiff, Nat.reduceMod, Nat.reduceDiv, r_it, k_rng_nI hi (by decide), q_R hp, h]
theorem c_na (hp : q_PI M) (hi : i < 4) {mn k : Nat} (hm : ir_I M (404 + 2 * i) 1 = nI mn) (h30 : mn ≤ 30) (hk : k < mn) : m_X10_numberAt (d + 1) (404 + 2 * i) (nI k) M = ir_oJ (ir_J M (405 + 2 * i) k) M := by
  rw [E_X10_numberAt]
  simp (disch := omega) only [q_ckt, q_lt, q_cI, q_cJ, q_cV, q_cP, q_xI, q_xV, q_xP, q_xJ, g_gk, g_ga, g_gw, g_gp, g_gq, g_P, g_J, q_I_s, q_I_n, q_I_k, nI_add, pk_sub, pk_mul, nI_clamp, n_lt0, n_0lt, n_eq0, n_lt, n_le, n_eq, n_m1, n_m2, n_m9, n_12, n_19, n_10, n_01, n_1n1, n_0n1, n_1n0, n_0n0, n_dI, n_m1lt, q_inb, n_nar, n_nar0, n_nar1, n_bool, Bool.false_eq_true, Bool.true_eq_false, if_true, if_false, ↓reduceIte, Nat.reduceAdd, Nat.reduceMul, Nat.reduceSub, Nat.reduceLT, Nat.reduceLeDiff, Nat.reduceEqDiff, Nat.reduceMod, Nat.reduceDiv, q_Yt hp hi, hm, hk]
end TY
/-- what a tray says -/
def c_tt (M : ir_M) (i mn : Nat) (T : Nat → Int64) : Prop := i < 4 ∧ mn ≤ 30 ∧ ir_I M (404 + 2 * i) 0 = 0 ∧ ir_I M (404 + 2 * i) 1 = nI mn ∧ ∀ k, k < mn → ir_J M (405 + 2 * i) k = T k
def r_tt (M : ir_M) (i mn : Nat) (T : Nat → Int64) : Prop := i < 4 ∧ mn ≤ 30 ∧ ir_I M 434 i = nI mn ∧ ∀ k, k < mn → ir_J M 435 (30 * i + k) = T k
theorem c_tt_eq {S : List Nat} {M M' : ir_M} {i mn : Nat} {T : Nat → Int64} (h : c_tt M i mn T) (he : q_eq S M M') (hS : ∀ a ∈ S, a < 404 ∨ 411 < a) : c_tt M' i mn T := by
  obtain ⟨h1, h2, h3, h4, h5⟩ := h
  have n : 404 + 2 * i ∉ S := fun q => by have := hS _ q; omega
  refine ⟨h1, h2, by rw [q_I_eq he n]; exact h3, by rw [q_I_eq he n]; exact h4, fun k hk => ?_⟩
  rw [← h5 k hk]
  show M'.2.1 _ _ = M.2.1 _ _
  rw [he.2]
theorem r_tt_eq {S : List Nat} {M M' : ir_M} {i mn : Nat} {T : Nat → Int64} (h : r_tt M i mn T) (he : q_eq S M M') (hS : 434 ∉ S) : r_tt M' i mn T := by
  obtain ⟨h1, h2, h3, h4⟩ := h
  refine ⟨h1, h2, by rw [q_I_eq he hS]; exact h3, fun k hk => ?_⟩
  rw [← h4 k hk]
  show M'.2.1 _ _ = M.2.1 _ _
  rw [he.2]
theorem c_tt_dc {M M' : ir_M} {i mn : Nat} {T : Nat → Int64} (h : c_tt M i mn T) (he : q_dc M M') : c_tt M' i mn T := by
  obtain ⟨h1, h2, h3, h4, h5⟩ := h
  have n : q_pc (404 + 2 * i) = false := by
    have : i = 0 ∨ i = 1 ∨ i = 2 ∨ i = 3 := by omega
    rcases this with rfl | rfl | rfl | rfl <;> rfl
  refine ⟨h1, h2, (congrFun (he.1 _ n) 0).trans h3, (congrFun (he.1 _ n) 1).trans h4, fun k hk => ?_⟩
  rw [← h5 k hk]
  show M'.2.1 _ _ = M.2.1 _ _
  rw [he.2.2]
theorem r_tt_dr {M M' : ir_M} {i mn : Nat} {T : Nat → Int64} (h : r_tt M i mn T) (he : q_dr M M') : r_tt M' i mn T := by
  obtain ⟨h1, h2, h3, h4⟩ := h
  refine ⟨h1, h2, (congrFun (he.1 434 rfl) i).trans h3, fun k hk => ?_⟩
  rw [← h4 k hk]
  show M'.2.1 _ _ = M.2.1 _ _
  rw [he.2.2]
theorem c_tt_st {k : Nat} {M M' : ir_M} {i mn : Nat} {T : Nat → Int64} (h : c_tt M i mn T) (he : q_st k M M') : c_tt M' i mn T := by
  obtain ⟨h1, h2, h3, h4, h5⟩ := h
  refine ⟨h1, h2, (he.2.2.1.1 _ 0 (q_l2_of (by omega))).trans h3, (he.2.2.1.1 _ 1 (q_l2_of (by omega))).trans h4, fun k hk => ?_⟩
  rw [← h5 k hk]
  exact congrFun (he.2.2.1.2 _ (by
    have : i = 0 ∨ i = 1 ∨ i = 2 ∨ i = 3 := by omega
    rcases this with rfl | rfl | rfl | rfl <;> rfl)) k
theorem r_tt_st {k : Nat} {M M' : ir_M} {i mn : Nat} {T : Nat → Int64} (h : r_tt M i mn T) (he : q_st k M M') : r_tt M' i mn T := by
  obtain ⟨h1, h2, h3, h4⟩ := h
  refine ⟨h1, h2, (he.2.2.1.1 434 i rfl).trans h3, fun k hk => ?_⟩
  rw [← h4 k hk]
  exact congrFun (he.2.2.1.2 435 rfl) _
/-- a tray between calls -/
theorem c_ty_use {M : ir_M} {i : Nat} (hi : i < 4) (h : c_ty M i) : (ir_I M (404 + 2 * i) 0 = 1 ∧ ir_I M 433 i = -1) ∨ ∃ so mn T, so < 4 ∧ ir_I M (404 + 2 * i) 2 = nI so ∧ ir_I M 433 i = nI so ∧ c_tt M i mn T ∧ r_tt M i mn T := by
  rcases h with h | ⟨h0, so, mn, h1, h2, h3, h4, h5, h6, h7⟩
  · exact Or.inl h
  · exact Or.inr ⟨so, mn, fun k => ir_J M (405 + 2 * i) k, h1, h3, h4, ⟨hi, h2, h0, h5, fun _ _ => rfl⟩, hi, h2, h6, fun k hk => (h7 k hk).symm⟩
/-! told deeds -/
def k_wx (K : Nat → Int32) (x : Nat) : Nat := if x % 100 / 10 < k_n K then (if x % 10 < (if x < 100 then k_g K else k_m K) then (match k_pl K (x % 100 / 10) with | none => 2 | some _ => 0) else 1) else 1
def k_wy (K : Nat → Int32) (v : Int64) : Nat := if v = -1 then 0 else if 0 ≤ v.toInt ∧ v.toInt < 200 then k_wx K v.toInt.toNat else 1
def k_mx (K : Nat → Int32) (x : Nat) : Nat → Int32 := if x < 100 then upd K (18 + x / 10) (nI (x % 10)) else match k_pl K (x % 100 / 10) with
  | none => K
  | some j => k_mov K j (x % 10)
def k_mk (K : Nat → Int32) (v : Int64) : Int32 × (Nat → Int32) := if v = -1 then (k_tot K, k_day K) else (nI 0, k_mx K v.toInt.toNat)
def nJ (x : Nat) : Int64 := (nI x).toInt64
theorem nJ_toInt {x : Nat} (h : x < 2 ^ 31) : (nJ x).toInt = (x : Int) := by
  unfold nJ
  rw [Int32.toInt_toInt64, nI_toInt h]
theorem nJ_of {v : Int64} (h0 : 0 ≤ v.toInt) (h1 : v.toInt < 200) : ∃ x, x < 200 ∧ v = nJ x := by
  refine ⟨v.toInt.toNat, by omega, ?_⟩
  rw [← Int64.toInt_inj, nJ_toInt (by omega)]
  omega
theorem j_A : ∀ x, x < 200 → (nJ x - nJ x / (100 : Int64) * (100 : Int64)).toInt32 / nI 10 = nI (x % 100 / 10) := by decide +kernel
theorem j_B : ∀ x, x < 200 → (nJ x - nJ x / (10 : Int64) * (10 : Int64)).toInt32 = nI (x % 10) := by decide +kernel
theorem j_C : ∀ x, x < 200 → (nJ x - nJ x / (100 : Int64) * (100 : Int64)) / (10 : Int64) = (nI (x % 100 / 10)).toInt64 := by decide +kernel
theorem j_D : ∀ x, x < 200 → nJ x - nJ x / (10 : Int64) * (10 : Int64) = (nI (x % 10)).toInt64 := by decide +kernel
theorem j_E : ∀ x, x < 200 → (nJ x).toInt32 = nI x := by decide +kernel
theorem j_F : ∀ x, x < 200 → (nI x - nI x / nI 100 * nI 100) / nI 10 = nI (x % 100 / 10) := by decide +kernel
theorem j_G : ∀ x, x < 200 → nI x - nI x / nI 10 * nI 10 = nI (x % 10) := by decide +kernel
theorem j_H : ∀ x, x < 200 → nI x / nI 10 = nI (x / 10) := by decide +kernel
theorem j_1 : ∀ x, x < 200 → (lg_cmp (nJ x) (-1 : Int64) = 0) = False := fun x h => eq_false ((by decide +kernel : ∀ x, x < 200 → ¬ lg_cmp (nJ x) (-1 : Int64) = 0) x h)
theorem j_2 : ∀ x, x < 200 → (lg_cmp (nJ x) (0 : Int64) < 0) = False := fun x h => eq_false ((by decide +kernel : ∀ x, x < 200 → ¬ lg_cmp (nJ x) (0 : Int64) < 0) x h)
theorem j_3 : ∀ x, x < 200 → (lg_cmp (nJ x) (200 : Int64) < 0) = True := fun x h => eq_true ((by decide +kernel : ∀ x, x < 200 → lg_cmp (nJ x) (200 : Int64) < 0) x h)
theorem j_4 : ∀ x, x < 200 → (lg_cmp (nJ x) (100 : Int64) < 0) = (x < 100) := fun x h => propext ((by decide +kernel : ∀ x, x < 200 → (lg_cmp (nJ x) (100 : Int64) < 0 ↔ x < 100)) x h)
theorem j_m1 : lg_cmp (-1 : Int64) (-1 : Int64) = 0 := by decide +kernel
theorem j_m1i : (-1 : Int64).toInt32 = -1 := by decide +kernel
theorem j_n1 {v : Int64} (h : v ≠ -1) : (lg_cmp v (-1 : Int64) = 0) = False := eq_false fun q => h ((k_c0 _ _).mp q)
theorem k_pl_lt {K : Nat → Int32} (hk : k_ok K) {p : Nat} (h : k_pl K p ≠ none) : p < k_n K := by
  cases e : k_pl K p with
  | none => exact absurd e h
  | some j => rw [← (k_pl_some e).2]; exact k_qn hk (k_pl_some e).1
/-- three kinds of a deed that can be -/
theorem k_wy_0 {K : Nat → Int32} {v : Int64} (h : k_wy K v = 0) : v = -1 ∨ ∃ x j, x < 200 ∧ v = nJ x ∧ v ≠ -1 ∧ x % 100 / 10 < k_n K ∧ x % 10 < (if x < 100 then k_g K else k_m K) ∧ k_pl K (x % 100 / 10) = some j := by
  unfold k_wy at h
  by_cases q : v = -1
  · exact Or.inl q
  · rw [if_neg q] at h
    by_cases q2 : 0 ≤ v.toInt ∧ v.toInt < 200
    · rw [if_pos q2] at h
      obtain ⟨x, hx, rfl⟩ := nJ_of q2.1 q2.2
      rw [nJ_toInt (by omega), Int.toNat_natCast] at h
      unfold k_wx at h
      by_cases q3 : x % 100 / 10 < k_n K
      · rw [if_pos q3] at h
        by_cases q4 : x % 10 < (if x < 100 then k_g K else k_m K)
        · rw [if_pos q4] at h
          cases e : k_pl K (x % 100 / 10) with
          | none => rw [e] at h; exact nomatch h
          | some j => exact Or.inr ⟨x, j, hx, rfl, q, q3, q4, e⟩
        · rw [if_neg q4] at h; exact nomatch h
      · rw [if_neg q3] at h; exact nomatch h
    · rw [if_neg q2] at h; exact nomatch h
theorem k_wy_J {K : Nat → Int32} {x : Nat} (hx : x < 200) : k_wy K (nJ x) = k_wx K x := by
  unfold k_wy
  have q : ¬ nJ x = -1 := fun w => by
    have := nJ_toInt (show x < 2 ^ 31 by omega)
    rw [w] at this
    have : (-1 : Int64).toInt = -1 := by decide +kernel
    omega
  rw [if_neg q, nJ_toInt (by omega), if_pos ⟨by omega, by omega⟩, Int.toNat_natCast]
theorem k_mk_J {K : Nat → Int32} {x : Nat} (hx : x < 200) (hn : nJ x ≠ -1) : k_mk K (nJ x) = (nI 0, k_mx K x) := by
  unfold k_mk
  rw [if_neg hn, nJ_toInt (by omega), Int.toNat_natCast]
theorem k_wy_out {K : Nat → Int32} {v : Int64} (h1 : v ≠ -1) (h2 : ¬ (0 ≤ v.toInt ∧ v.toInt < 200)) : k_wy K v = 1 := by
  unfold k_wy
  rw [if_neg h1, if_neg h2]
theorem k_mk_o {K : Nat → Int32} (hk : k_ok K) {v : Int64} (h : k_wy K v = 0) : (∀ k, ¬ (9 ≤ k ∧ k < 53) → (k_mk K v).2 k = K k) ∧ k_okS (k_mk K v).2 := by
  have hb := k_bds hk
  rcases k_wy_0 h with rfl | ⟨x, j, hx, rfl, hn, hp, hg, hj⟩
  · rw [show k_mk K (-1) = (k_tot K, k_day K) from if_pos rfl]
    exact ⟨fun k hk' => k_day_o hk hk', (k_day_ok hk).1.2⟩
  · rw [k_mk_J hx hn]
    dsimp only
    unfold k_mx
    by_cases q : x < 100
    · rw [if_pos q] at hg ⊢
      have e : x / 10 = x % 100 / 10 := by omega
      exact ⟨fun k hk' => k_upd_n (by omega), k_ask_ok hk (by omega) hg⟩
    · rw [if_neg q] at hg ⊢
      rw [hj]
      have hjm := (k_pl_some hj).1
      exact ⟨fun k hk' => k_mov_o hk hjm hg (by omega), (k_mov_ok hk hjm hg).1.2⟩
theorem k_mk_wf {K : Nat → Int32} (hw : k_wf K) {v : Int64} (h : k_wy K v = 0) : k_wf (k_mk K v).2 := k_wf_st hw (k_mk_o hw.1 h).1 (k_mk_o hw.1 h).2
section TL
variable {M : ir_M} {K : Nat → Int32} {d s : Nat}
theorem c_why (h : c_rl M s K) (v : Int64) : m_X11_whyNot (d + 2) 1 v s M = ir_oI (nI (k_wy K v)) M := by
  have hb := k_bds h.2.2.1
  have hu := c_use h
  by_cases q : v = -1
  · rw [q, E_X11_whyNot]
    simp (disch := omega) only [q_ckt, q_lt, q_cI, q_cJ, q_cV, q_cP, q_xI, q_xV, q_xP, q_xJ, g_gk, g_ga, g_gw, g_gp, g_gq, g_P, g_J, q_I_s, q_I_n, q_I_k, nI_add, pk_sub, pk_mul, nI_clamp, n_lt0, n_0lt, n_eq0, n_lt, n_le, n_eq, n_m1, n_m2, n_m9, n_12, n_19, n_10, n_01, n_1n1, n_0n1, n_1n0, n_0n0, n_dI, n_m1lt, q_inb, n_nar, n_nar0, n_nar1, n_bool, Bool.false_eq_true, Bool.true_eq_false, if_true, if_false, ↓reduceIte, Nat.reduceAdd, Nat.reduceMul, Nat.reduceSub, Nat.reduceLT, Nat.reduceLeDiff, Nat.reduceEqDiff, Nat.reduceMod, Nat.reduceDiv, j_m1]
    rfl
  · by_cases q2 : 0 ≤ v.toInt ∧ v.toInt < 200
    · obtain ⟨x, hx, rfl⟩ := nJ_of q2.1 q2.2
      rw [k_wy_J hx, E_X11_whyNot]
      have pl := c_pl (d := d) h (show x % 100 / 10 < 2 ^ 31 by omega)
      have fin : ∀ a : Nat, a ≤ 8 → v_X11_whyNot_67 (d + 1) 1 s (nI (x % 100 / 10)) (nI (x % 10)) (nI a) M = ir_oI (nI (if x % 100 / 10 < k_n K then (if x % 10 < a then (match k_pl K (x % 100 / 10) with | none => 2 | some _ => 0) else 1) else 1)) M := fun a ha => by
        rw [L_X11_whyNot_67]
        simp (disch := omega) only [q_ckt, q_lt, q_cI, q_cJ, q_cV, q_cP, q_xI, q_xV, q_xP, q_xJ, g_gk, g_ga, g_gw, g_gp, g_gq, g_P, g_J, q_I_s, q_I_n, q_I_k, nI_add, pk_sub, pk_mul, nI_clamp, n_lt0, n_0lt, n_eq0, n_lt, n_le, n_eq, n_m1, n_m2, n_m9, n_12, n_19, n_10, n_01, n_1n1, n_0n1, n_1n0, n_0n0, n_dI, n_m1lt, q_inb, n_nar, n_nar0, n_nar1, n_bool, Bool.false_eq_true, Bool.true_eq_false, if_true, if_false, ↓reduceIte, Nat.reduceAdd, Nat.reduceMul, Nat.reduceSub, Nat.reduceLT, Nat.reduceLeDiff, Nat.reduceEqDiff, Nat.reduceMod, Nat.reduceDiv, q_W h.1, q_T h.1, hu, q_S h.1 h.2.1, pl]
        by_cases q3 : x % 100 / 10 < k_n K
        · simp (disch := omega) only [q_ckt, q_lt, q_cI, q_cJ, q_cV, q_cP, q_xI, q_xV, q_xP, q_xJ, g_gk, g_ga, g_gw, g_gp, g_gq, g_P, g_J, q_I_s, q_I_n, q_I_k, nI_add, pk_sub, pk_mul, nI_clamp, n_lt0, n_0lt, n_eq0, n_lt, n_le, n_eq, n_m1, n_m2, n_m9, n_12, n_19, n_10, n_01, n_1n1, n_0n1, n_1n0, n_0n0, n_dI, n_m1lt, q_inb, n_nar, n_nar0, n_nar1, n_bool, Bool.false_eq_true, Bool.true_eq_false, if_true, if_false, ↓reduceIte, Nat.reduceAdd, Nat.reduceMul, Nat.reduceSub, Nat.reduceLT, Nat.reduceLeDiff, Nat.reduceEqDiff, Nat.reduceMod, Nat.reduceDiv, q3]
          by_cases q4 : x % 10 < a
          · simp (disch := omega) only [q_ckt, q_lt, q_cI, q_cJ, q_cV, q_cP, q_xI, q_xV, q_xP, q_xJ, g_gk, g_ga, g_gw, g_gp, g_gq, g_P, g_J, q_I_s, q_I_n, q_I_k, nI_add, pk_sub, pk_mul, nI_clamp, n_lt0, n_0lt, n_eq0, n_lt, n_le, n_eq, n_m1, n_m2, n_m9, n_12, n_19, n_10, n_01, n_1n1, n_0n1, n_1n0, n_0n0, n_dI, n_m1lt, q_inb, n_nar, n_nar0, n_nar1, n_bool, Bool.false_eq_true, Bool.true_eq_false, if_true, if_false, ↓reduceIte, Nat.reduceAdd, Nat.reduceMul, Nat.reduceSub, Nat.reduceLT, Nat.reduceLeDiff, Nat.reduceEqDiff, Nat.reduceMod, Nat.reduceDiv, q4]
            cases e : k_pl K (x % 100 / 10) with
            | none => simp (disch := omega) only [q_ckt, q_lt, q_cI, q_cJ, q_cV, q_cP, q_xI, q_xV, q_xP, q_xJ, g_gk, g_ga, g_gw, g_gp, g_gq, g_P, g_J, q_I_s, q_I_n, q_I_k, nI_add, pk_sub, pk_mul, nI_clamp, n_lt0, n_0lt, n_eq0, n_lt, n_le, n_eq, n_m1, n_m2, n_m9, n_12, n_19, n_10, n_01, n_1n1, n_0n1, n_1n0, n_0n0, n_dI, n_m1lt, q_inb, n_nar, n_nar0, n_nar1, n_bool, Bool.false_eq_true, Bool.true_eq_false, if_true, if_false, ↓reduceIte, Nat.reduceAdd, Nat.reduceMul, Nat.reduceSub, Nat.reduceLT, Nat.reduceLeDiff, Nat.reduceEqDiff, Nat.reduceMod, Nat.reduceDiv, k_on]
            | some j =>
              have := (k_pl_some e).1
              simp (disch := omega) only [q_ckt, q_lt, q_cI, q_cJ, q_cV, q_cP, q_xI, q_xV, q_xP, q_xJ, g_gk, g_ga, g_gw, g_gp, g_gq, g_P, g_J, q_I_s, q_I_n, q_I_k, nI_add, pk_sub, pk_mul, nI_clamp, n_lt0, n_0lt, n_eq0, n_lt, n_le, n_eq, n_m1, n_m2, n_m9, n_12, n_19, n_10, n_01, n_1n1, n_0n1, n_1n0, n_0n0, n_dI, n_m1lt, q_inb, n_nar, n_nar0, n_nar1, n_bool, Bool.false_eq_true, Bool.true_eq_false, if_true, if_false, ↓reduceIte, Nat.reduceAdd, Nat.reduceMul, Nat.reduceSub, Nat.reduceLT, Nat.reduceLeDiff, Nat.reduceEqDiff, Nat.reduceMod, Nat.reduceDiv, k_on]
          · simp (disch := omega) only [q_ckt, q_lt, q_cI, q_cJ, q_cV, q_cP, q_xI, q_xV, q_xP, q_xJ, g_gk, g_ga, g_gw, g_gp, g_gq, g_P, g_J, q_I_s, q_I_n, q_I_k, nI_add, pk_sub, pk_mul, nI_clamp, n_lt0, n_0lt, n_eq0, n_lt, n_le, n_eq, n_m1, n_m2, n_m9, n_12, n_19, n_10, n_01, n_1n1, n_0n1, n_1n0, n_0n0, n_dI, n_m1lt, q_inb, n_nar, n_nar0, n_nar1, n_bool, Bool.false_eq_true, Bool.true_eq_false, if_true, if_false, ↓reduceIte, Nat.reduceAdd, Nat.reduceMul, Nat.reduceSub, Nat.reduceLT, Nat.reduceLeDiff, Nat.reduceEqDiff, Nat.reduceMod, Nat.reduceDiv, q4]
        · simp (disch := omega) only [q_ckt, q_lt, q_cI, q_cJ, q_cV, q_cP, q_xI, q_xV, q_xP, q_xJ, g_gk, g_ga, g_gw, g_gp, g_gq, g_P, g_J, q_I_s, q_I_n, q_I_k, nI_add, pk_sub, pk_mul, nI_clamp, n_lt0, n_0lt, n_eq0, n_lt, n_le, n_eq, n_m1, n_m2, n_m9, n_12, n_19, n_10, n_01, n_1n1, n_0n1, n_1n0, n_0n0, n_dI, n_m1lt, q_inb, n_nar, n_nar0, n_nar1, n_bool, Bool.false_eq_true, Bool.true_eq_false, if_true, if_false, ↓reduceIte, Nat.reduceAdd, Nat.reduceMul, Nat.reduceSub, Nat.reduceLT, Nat.reduceLeDiff, Nat.reduceEqDiff, Nat.reduceMod, Nat.reduceDiv, q3]
      unfold k_wx
      by_cases q5 : x < 100
      · simp (disch := omega) only [q_ckt, q_lt, q_cI, q_cJ, q_cV, q_cP, q_xI, q_xV, q_xP, q_xJ, g_gk, g_ga, g_gw, g_gp, g_gq, g_P, g_J, q_I_s, q_I_n, q_I_k, nI_add, pk_sub, pk_mul, nI_clamp, n_lt0, n_0lt, n_eq0, n_lt, n_le, n_eq, n_m1, n_m2, n_m9, n_12, n_19, n_10, n_01, n_1n1, n_0n1, n_1n0, n_0n0, n_dI, n_m1lt, q_inb, n_nar, n_nar0, n_nar1, n_bool, Bool.false_eq_true, Bool.true_eq_false, if_true, if_false, ↓reduceIte, Nat.reduceAdd, Nat.reduceMul, Nat.reduceSub, Nat.reduceLT, Nat.reduceLeDiff, Nat.reduceEqDiff, Nat.reduceMod, Nat.reduceDiv, j_1 x hx, j_2 x hx, j_3 x hx, j_4 x hx, q5, j_A x hx, j_B x hx, q_W h.1, q_T h.1, hu]
        exact fin _ (by omega)
      · simp (disch := omega) only [q_ckt, q_lt, q_cI, q_cJ, q_cV, q_cP, q_xI, q_xV, q_xP, q_xJ, g_gk, g_ga, g_gw, g_gp, g_gq, g_P, g_J, q_I_s, q_I_n, q_I_k, nI_add, pk_sub, pk_mul, nI_clamp, n_lt0, n_0lt, n_eq0, n_lt, n_le, n_eq, n_m1, n_m2, n_m9, n_12, n_19, n_10, n_01, n_1n1, n_0n1, n_1n0, n_0n0, n_dI, n_m1lt, q_inb, n_nar, n_nar0, n_nar1, n_bool, Bool.false_eq_true, Bool.true_eq_false, if_true, if_false, ↓reduceIte, Nat.reduceAdd, Nat.reduceMul, Nat.reduceSub, Nat.reduceLT, Nat.reduceLeDiff, Nat.reduceEqDiff, Nat.reduceMod, Nat.reduceDiv, j_1 x hx, j_2 x hx, j_3 x hx, j_4 x hx, q5, j_A x hx, j_B x hx, q_S h.1 h.2.1, hu]
        exact fin _ (by omega)
    · rw [k_wy_out q q2, E_X11_whyNot]
      simp (disch := omega) only [q_ckt, q_lt, q_cI, q_cJ, q_cV, q_cP, q_xI, q_xV, q_xP, q_xJ, g_gk, g_ga, g_gw, g_gp, g_gq, g_P, g_J, q_I_s, q_I_n, q_I_k, nI_add, pk_sub, pk_mul, nI_clamp, n_lt0, n_0lt, n_eq0, n_lt, n_le, n_eq, n_m1, n_m2, n_m9, n_12, n_19, n_10, n_01, n_1n1, n_0n1, n_1n0, n_0n0, n_dI, n_m1lt, q_inb, n_nar, n_nar0, n_nar1, n_bool, Bool.false_eq_true, Bool.true_eq_false, if_true, if_false, ↓reduceIte, Nat.reduceAdd, Nat.reduceMul, Nat.reduceSub, Nat.reduceLT, Nat.reduceLeDiff, Nat.reduceEqDiff, Nat.reduceMod, Nat.reduceDiv, j_n1 q]
      by_cases q3 : lg_cmp v (0 : Int64) < 0
      · rw [if_pos q3]
      · rw [if_neg q3, if_neg ?_]
        intro w
        rw [k_c1, Int64.lt_iff_toInt_lt] at q3 w
        have e0 : (0 : Int64).toInt = 0 := by decide +kernel
        have e2 : (200 : Int64).toInt = 200 := by decide +kernel
        omega
theorem r_why (h : r_rl M K) (v : Int64) : m_X12_whyTold (d + 3) 412 v M = ir_oI (nI (k_wy K v)) M := by
  have hb := k_bds h.2.1
  by_cases q : v = -1
  · rw [q, E_X12_whyTold]
    simp (disch := omega) only [q_ckt, q_lt, q_cI, q_cJ, q_cV, q_cP, q_xI, q_xV, q_xP, q_xJ, g_gk, g_ga, g_gw, g_gp, g_gq, g_P, g_J, q_I_s, q_I_n, q_I_k, nI_add, pk_sub, pk_mul, nI_clamp, n_lt0, n_0lt, n_eq0, n_lt, n_le, n_eq, n_m1, n_m2, n_m9, n_12, n_19, n_10, n_01, n_1n1, n_0n1, n_1n0, n_0n0, n_dI, n_m1lt, q_inb, n_nar, n_nar0, n_nar1, n_bool, Bool.false_eq_true, Bool.true_eq_false, if_true, if_false, ↓reduceIte, Nat.reduceAdd, Nat.reduceMul, Nat.reduceSub, Nat.reduceLT, Nat.reduceLeDiff, Nat.reduceEqDiff, Nat.reduceMod, Nat.reduceDiv, j_m1]
    rfl
  · have wi : ((0 : Int64).toInt ≤ v.toInt ∧ v.toInt ≤ (199 : Int64).toInt) = (0 ≤ v.toInt ∧ v.toInt < 200) := by
      rw [show (0 : Int64).toInt = 0 by decide +kernel, show (199 : Int64).toInt = 199 by decide +kernel]
      exact propext ⟨fun h => ⟨h.1, by omega⟩, fun h => ⟨h.1, by omega⟩⟩
    by_cases q2 : 0 ≤ v.toInt ∧ v.toInt < 200
    · have wi' := eq_true (wi.mpr q2)
      obtain ⟨x, hx, rfl⟩ := nJ_of q2.1 q2.2
      rw [k_wy_J hx, E_X12_whyTold]
      have pl := r_placeOf (d := d) h (show x % 100 / 10 < 2 ^ 31 by omega)
      have fin : v_X12_whyTold_76 (d + 2) 412 (nJ x) M = ir_oI (nI (match k_pl K (x % 100 / 10) with | none => 2 | some _ => 0)) M := by
        rw [L_X12_whyTold_76]
        simp (disch := omega) only [q_ckt, q_lt, q_cI, q_cJ, q_cV, q_cP, q_xI, q_xV, q_xP, q_xJ, g_gk, g_ga, g_gw, g_gp, g_gq, g_P, g_J, q_I_s, q_I_n, q_I_k, nI_add, pk_sub, pk_mul, nI_clamp, n_lt0, n_0lt, n_eq0, n_lt, n_le, n_eq, n_m1, n_m2, n_m9, n_12, n_19, n_10, n_01, n_1n1, n_0n1, n_1n0, n_0n0, n_dI, n_m1lt, q_inb, n_nar, n_nar0, n_nar1, n_bool, Bool.false_eq_true, Bool.true_eq_false, if_true, if_false, ↓reduceIte, Nat.reduceAdd, Nat.reduceMul, Nat.reduceSub, Nat.reduceLT, Nat.reduceLeDiff, Nat.reduceEqDiff, Nat.reduceMod, Nat.reduceDiv, q_R h.1, j_E x hx, j_F x hx, pl]
        cases e : k_pl K (x % 100 / 10) with
        | none => simp (disch := omega) only [q_ckt, q_lt, q_cI, q_cJ, q_cV, q_cP, q_xI, q_xV, q_xP, q_xJ, g_gk, g_ga, g_gw, g_gp, g_gq, g_P, g_J, q_I_s, q_I_n, q_I_k, nI_add, pk_sub, pk_mul, nI_clamp, n_lt0, n_0lt, n_eq0, n_lt, n_le, n_eq, n_m1, n_m2, n_m9, n_12, n_19, n_10, n_01, n_1n1, n_0n1, n_1n0, n_0n0, n_dI, n_m1lt, q_inb, n_nar, n_nar0, n_nar1, n_bool, Bool.false_eq_true, Bool.true_eq_false, if_true, if_false, ↓reduceIte, Nat.reduceAdd, Nat.reduceMul, Nat.reduceSub, Nat.reduceLT, Nat.reduceLeDiff, Nat.reduceEqDiff, Nat.reduceMod, Nat.reduceDiv, k_on]
        | some j =>
          have := (k_pl_some e).1
          simp (disch := omega) only [q_ckt, q_lt, q_cI, q_cJ, q_cV, q_cP, q_xI, q_xV, q_xP, q_xJ, g_gk, g_ga, g_gw, g_gp, g_gq, g_P, g_J, q_I_s, q_I_n, q_I_k, nI_add, pk_sub, pk_mul, nI_clamp, n_lt0, n_0lt, n_eq0, n_lt, n_le, n_eq, n_m1, n_m2, n_m9, n_12, n_19, n_10, n_01, n_1n1, n_0n1, n_1n0, n_0n0, n_dI, n_m1lt, q_inb, n_nar, n_nar0, n_nar1, n_bool, Bool.false_eq_true, Bool.true_eq_false, if_true, if_false, ↓reduceIte, Nat.reduceAdd, Nat.reduceMul, Nat.reduceSub, Nat.reduceLT, Nat.reduceLeDiff, Nat.reduceEqDiff, Nat.reduceMod, Nat.reduceDiv, k_on]
      unfold k_wx
      simp (disch := omega) only [q_ckt, q_lt, q_cI, q_cJ, q_cV, q_cP, q_xI, q_xV, q_xP, q_xJ, g_gk, g_ga, g_gw, g_gp, g_gq, g_P, g_J, q_I_s, q_I_n, q_I_k, nI_add, pk_sub, pk_mul, nI_clamp, n_lt0, n_0lt, n_eq0, n_lt, n_le, n_eq, n_m1, n_m2, n_m9, n_12, n_19, n_10, n_01, n_1n1, n_0n1, n_1n0, n_0n0, n_dI, n_m1lt, q_inb, n_nar, n_nar0, n_nar1, n_bool, Bool.false_eq_true, Bool.true_eq_false, if_true, if_false, ↓reduceIte, Nat.reduceAdd, Nat.reduceMul, Nat.reduceSub, Nat.reduceLT, Nat.reduceLeDiff, Nat.reduceEqDiff, Nat.reduceMod, Nat.reduceDiv, j_1 x hx, r_within, wi', q_R h.1, j_C x hx, r_ib h]
      by_cases q3 : x % 100 / 10 < k_n K
      · simp (disch := omega) only [q_ckt, q_lt, q_cI, q_cJ, q_cV, q_cP, q_xI, q_xV, q_xP, q_xJ, g_gk, g_ga, g_gw, g_gp, g_gq, g_P, g_J, q_I_s, q_I_n, q_I_k, nI_add, pk_sub, pk_mul, nI_clamp, n_lt0, n_0lt, n_eq0, n_lt, n_le, n_eq, n_m1, n_m2, n_m9, n_12, n_19, n_10, n_01, n_1n1, n_0n1, n_1n0, n_0n0, n_dI, n_m1lt, q_inb, n_nar, n_nar0, n_nar1, n_bool, Bool.false_eq_true, Bool.true_eq_false, if_true, if_false, ↓reduceIte, Nat.reduceAdd, Nat.reduceMul, Nat.reduceSub, Nat.reduceLT, Nat.reduceLeDiff, Nat.reduceEqDiff, Nat.reduceMod, Nat.reduceDiv, q3, k_rng_nI q3 (by omega), j_4 x hx, j_D x hx, r_ig h, r_is h]
        by_cases q5 : x < 100
        · simp (disch := omega) only [q_ckt, q_lt, q_cI, q_cJ, q_cV, q_cP, q_xI, q_xV, q_xP, q_xJ, g_gk, g_ga, g_gw, g_gp, g_gq, g_P, g_J, q_I_s, q_I_n, q_I_k, nI_add, pk_sub, pk_mul, nI_clamp, n_lt0, n_0lt, n_eq0, n_lt, n_le, n_eq, n_m1, n_m2, n_m9, n_12, n_19, n_10, n_01, n_1n1, n_0n1, n_1n0, n_0n0, n_dI, n_m1lt, q_inb, n_nar, n_nar0, n_nar1, n_bool, Bool.false_eq_true, Bool.true_eq_false, if_true, if_false, ↓reduceIte, Nat.reduceAdd, Nat.reduceMul, Nat.reduceSub, Nat.reduceLT, Nat.reduceLeDiff, Nat.reduceEqDiff, Nat.reduceMod, Nat.reduceDiv, q5]
          by_cases q4 : x % 10 < k_g K
          · simp (disch := omega) only [q_ckt, q_lt, q_cI, q_cJ, q_cV, q_cP, q_xI, q_xV, q_xP, q_xJ, g_gk, g_ga, g_gw, g_gp, g_gq, g_P, g_J, q_I_s, q_I_n, q_I_k, nI_add, pk_sub, pk_mul, nI_clamp, n_lt0, n_0lt, n_eq0, n_lt, n_le, n_eq, n_m1, n_m2, n_m9, n_12, n_19, n_10, n_01, n_1n1, n_0n1, n_1n0, n_0n0, n_dI, n_m1lt, q_inb, n_nar, n_nar0, n_nar1, n_bool, Bool.false_eq_true, Bool.true_eq_false, if_true, if_false, ↓reduceIte, Nat.reduceAdd, Nat.reduceMul, Nat.reduceSub, Nat.reduceLT, Nat.reduceLeDiff, Nat.reduceEqDiff, Nat.reduceMod, Nat.reduceDiv, q4, k_rng_nI q4 (by omega), fin]
          · simp (disch := omega) only [q_ckt, q_lt, q_cI, q_cJ, q_cV, q_cP, q_xI, q_xV, q_xP, q_xJ, g_gk, g_ga, g_gw, g_gp, g_gq, g_P, g_J, q_I_s, q_I_n, q_I_k, nI_add, pk_sub, pk_mul, nI_clamp, n_lt0, n_0lt, n_eq0, n_lt, n_le, n_eq, n_m1, n_m2, n_m9, n_12, n_19, n_10, n_01, n_1n1, n_0n1, n_1n0, n_0n0, n_dI, n_m1lt, q_inb, n_nar, n_nar0, n_nar1, n_bool, Bool.false_eq_true, Bool.true_eq_false, if_true, if_false, ↓reduceIte, Nat.reduceAdd, Nat.reduceMul, Nat.reduceSub, Nat.reduceLT, Nat.reduceLeDiff, Nat.reduceEqDiff, Nat.reduceMod, Nat.reduceDiv, q4, k_rng_ge (show k_g K ≤ x % 10 by omega) (by omega)]
        · simp (disch := omega) only [q_ckt, q_lt, q_cI, q_cJ, q_cV, q_cP, q_xI, q_xV, q_xP, q_xJ, g_gk, g_ga, g_gw, g_gp, g_gq, g_P, g_J, q_I_s, q_I_n, q_I_k, nI_add, pk_sub, pk_mul, nI_clamp, n_lt0, n_0lt, n_eq0, n_lt, n_le, n_eq, n_m1, n_m2, n_m9, n_12, n_19, n_10, n_01, n_1n1, n_0n1, n_1n0, n_0n0, n_dI, n_m1lt, q_inb, n_nar, n_nar0, n_nar1, n_bool, Bool.false_eq_true, Bool.true_eq_false, if_true, if_false, ↓reduceIte, Nat.reduceAdd, Nat.reduceMul, Nat.reduceSub, Nat.reduceLT, Nat.reduceLeDiff, Nat.reduceEqDiff, Nat.reduceMod, Nat.reduceDiv, q5]
          by_cases q4 : x % 10 < k_m K
          · simp (disch := omega) only [q_ckt, q_lt, q_cI, q_cJ, q_cV, q_cP, q_xI, q_xV, q_xP, q_xJ, g_gk, g_ga, g_gw, g_gp, g_gq, g_P, g_J, q_I_s, q_I_n, q_I_k, nI_add, pk_sub, pk_mul, nI_clamp, n_lt0, n_0lt, n_eq0, n_lt, n_le, n_eq, n_m1, n_m2, n_m9, n_12, n_19, n_10, n_01, n_1n1, n_0n1, n_1n0, n_0n0, n_dI, n_m1lt, q_inb, n_nar, n_nar0, n_nar1, n_bool, Bool.false_eq_true, Bool.true_eq_false, if_true, if_false, ↓reduceIte, Nat.reduceAdd, Nat.reduceMul, Nat.reduceSub, Nat.reduceLT, Nat.reduceLeDiff, Nat.reduceEqDiff, Nat.reduceMod, Nat.reduceDiv, q4, k_rng_nI q4 (by omega), fin]
          · simp (disch := omega) only [q_ckt, q_lt, q_cI, q_cJ, q_cV, q_cP, q_xI, q_xV, q_xP, q_xJ, g_gk, g_ga, g_gw, g_gp, g_gq, g_P, g_J, q_I_s, q_I_n, q_I_k, nI_add, pk_sub, pk_mul, nI_clamp, n_lt0, n_0lt, n_eq0, n_lt, n_le, n_eq, n_m1, n_m2, n_m9, n_12, n_19, n_10, n_01, n_1n1, n_0n1, n_1n0, n_0n0, n_dI, n_m1lt, q_inb, n_nar, n_nar0, n_nar1, n_bool, Bool.false_eq_true, Bool.true_eq_false, if_true, if_false, ↓reduceIte, Nat.reduceAdd, Nat.reduceMul, Nat.reduceSub, Nat.reduceLT, Nat.reduceLeDiff, Nat.reduceEqDiff, Nat.reduceMod, Nat.reduceDiv, q4, k_rng_ge (show k_m K ≤ x % 10 by omega) (by omega)]
      · simp (disch := omega) only [q_ckt, q_lt, q_cI, q_cJ, q_cV, q_cP, q_xI, q_xV, q_xP, q_xJ, g_gk, g_ga, g_gw, g_gp, g_gq, g_P, g_J, q_I_s, q_I_n, q_I_k, nI_add, pk_sub, pk_mul, nI_clamp, n_lt0, n_0lt, n_eq0, n_lt, n_le, n_eq, n_m1, n_m2, n_m9, n_12, n_19, n_10, n_01, n_1n1, n_0n1, n_1n0, n_0n0, n_dI, n_m1lt, q_inb, n_nar, n_nar0, n_nar1, n_bool, Bool.false_eq_true, Bool.true_eq_false, if_true, if_false, ↓reduceIte, Nat.reduceAdd, Nat.reduceMul, Nat.reduceSub, Nat.reduceLT, Nat.reduceLeDiff, Nat.reduceEqDiff, Nat.reduceMod, Nat.reduceDiv, q3, k_rng_ge (show k_n K ≤ x % 100 / 10 by omega) (by omega)]
    · have wi' := eq_false (fun w => q2 (wi.mp w))
      rw [k_wy_out q q2, E_X12_whyTold]
      simp (disch := omega) only [q_ckt, q_lt, q_cI, q_cJ, q_cV, q_cP, q_xI, q_xV, q_xP, q_xJ, g_gk, g_ga, g_gw, g_gp, g_gq, g_P, g_J, q_I_s, q_I_n, q_I_k, nI_add, pk_sub, pk_mul, nI_clamp, n_lt0, n_0lt, n_eq0, n_lt, n_le, n_eq, n_m1, n_m2, n_m9, n_12, n_19, n_10, n_01, n_1n1, n_0n1, n_1n0, n_0n0, n_dI, n_m1lt, q_inb, n_nar, n_nar0, n_nar1, n_bool, Bool.false_eq_true, Bool.true_eq_false, if_true, if_false, ↓reduceIte, Nat.reduceAdd, Nat.reduceMul, Nat.reduceSub, Nat.reduceLT, Nat.reduceLeDiff, Nat.reduceEqDiff, Nat.reduceMod, Nat.reduceDiv, j_n1 q, r_within, wi']
theorem c_mk (h : c_rl M s K) {v : Int64} (hv : k_wy K v = 0) : ∃ M', m_X11_make (d + 6) 1 v.toInt32 s M = ir_oI (k_mk K v).1 M' ∧ q_eq [s, s + 1, s + 2, s + 4, s + 5, 9, 117, 118, 120] M M' ∧ c_rl M' s (k_mk K v).2 := by
  have hk := h.2.2.1
  have hb := k_bds hk
  have hS := q_S_r s h.2.1
  rcases k_wy_0 hv with rfl | ⟨x, j, hx, rfl, hn, hp, hg, hj⟩
  · rw [show k_mk K (-1) = (k_tot K, k_day K) from if_pos rfl, j_m1i]
    obtain ⟨M1, e1, q1, c1⟩ := c_day (d := d) h
    refine ⟨M1, ?_, q1.sub (fun a ha => by simp only [List.mem_cons, List.not_mem_nil, or_false] at ha ⊢; omega), c1⟩
    rw [E_X11_make]
    simp (disch := omega) only [q_ckt, q_lt, q_cI, q_cJ, q_cV, q_cP, q_xI, q_xV, q_xP, q_xJ, g_gk, g_ga, g_gw, g_gp, g_gq, g_P, g_J, q_I_s, q_I_n, q_I_k, nI_add, pk_sub, pk_mul, nI_clamp, n_lt0, n_0lt, n_eq0, n_lt, n_le, n_eq, n_m1, n_m2, n_m9, n_12, n_19, n_10, n_01, n_1n1, n_0n1, n_1n0, n_0n0, n_dI, n_m1lt, q_inb, n_nar, n_nar0, n_nar1, n_bool, Bool.false_eq_true, Bool.true_eq_false, if_true, if_false, ↓reduceIte, Nat.reduceAdd, Nat.reduceMul, Nat.reduceSub, Nat.reduceLT, Nat.reduceLeDiff, Nat.reduceEqDiff, Nat.reduceMod, Nat.reduceDiv, q_W h.1, q_F h.1, e1]
  · obtain ⟨ho, hok⟩ := k_mk_o hk hv
    rw [k_mk_J hx hn] at ho hok ⊢
    dsimp only at ho hok ⊢
    rw [j_E x hx]
    unfold k_mx at ho hok ⊢
    by_cases q : x < 100
    · rw [if_pos q] at hg ho hok ⊢
      have e : x / 10 = x % 100 / 10 := by omega
      rw [e] at ho hok ⊢
      refine ⟨ir_sI M (s + 2) (x % 100 / 10) (nI (x % 10)), ?_, q_eq.sI (by simp), c_rl_st (S := [s + 2]) h (q_eq.sI (by simp)) (by simp only [List.mem_cons, List.not_mem_nil, or_false]; omega) ho hok (c_st_ask hk h.2.2.2.2 hp)⟩
      rw [E_X11_make]
      simp (disch := omega) only [q_ckt, q_lt, q_cI, q_cJ, q_cV, q_cP, q_xI, q_xV, q_xP, q_xJ, g_gk, g_ga, g_gw, g_gp, g_gq, g_P, g_J, q_I_s, q_I_n, q_I_k, nI_add, pk_sub, pk_mul, nI_clamp, n_lt0, n_0lt, n_eq0, n_lt, n_le, n_eq, n_m1, n_m2, n_m9, n_12, n_19, n_10, n_01, n_1n1, n_0n1, n_1n0, n_0n0, n_dI, n_m1lt, q_inb, n_nar, n_nar0, n_nar1, n_bool, Bool.false_eq_true, Bool.true_eq_false, if_true, if_false, ↓reduceIte, Nat.reduceAdd, Nat.reduceMul, Nat.reduceSub, Nat.reduceLT, Nat.reduceLeDiff, Nat.reduceEqDiff, Nat.reduceMod, Nat.reduceDiv, q_S h.1 h.2.1, j_F x hx, j_G x hx, q]
    · rw [if_neg q] at hg ho hok ⊢
      rw [hj] at ho hok ⊢
      dsimp only at ho hok ⊢
      have hjm := (k_pl_some hj).1
      have pl := c_pl (d := d + 4) h (show x % 100 / 10 < 2 ^ 31 by omega)
      rw [hj] at pl
      obtain ⟨M1, e1, q1, f1⟩ := c_shift (d := d + 4) h hjm hg
      have st := c_st_shift h hjm hg q1 f1
      refine ⟨M1, ?_, q1.sub (by simp), c_rl_st h q1 (by simp only [List.mem_cons, List.not_mem_nil, or_false]; omega) ho hok st⟩
      rw [E_X11_make]
      simp (disch := omega) only [q_ckt, q_lt, q_cI, q_cJ, q_cV, q_cP, q_xI, q_xV, q_xP, q_xJ, g_gk, g_ga, g_gw, g_gp, g_gq, g_P, g_J, q_I_s, q_I_n, q_I_k, nI_add, pk_sub, pk_mul, nI_clamp, n_lt0, n_0lt, n_eq0, n_lt, n_le, n_eq, n_m1, n_m2, n_m9, n_12, n_19, n_10, n_01, n_1n1, n_0n1, n_1n0, n_0n0, n_dI, n_m1lt, q_inb, n_nar, n_nar0, n_nar1, n_bool, Bool.false_eq_true, Bool.true_eq_false, if_true, if_false, ↓reduceIte, Nat.reduceAdd, Nat.reduceMul, Nat.reduceSub, Nat.reduceLT, Nat.reduceLeDiff, Nat.reduceEqDiff, Nat.reduceMod, Nat.reduceDiv, q_S h.1 h.2.1, j_F x hx, j_G x hx, q, pl, k_on, e1]
theorem r_mk (h : r_rl M K) {v : Int64} (hv : k_wy K v = 0) : ∃ M', m_X12_does (d + 8) 412 v.toInt32 M = ir_oI (k_mk K v).1 M' ∧ q_eq [413, 418, 419, 420] M M' ∧ r_rl M' (k_mk K v).2 := by
  have hk := h.2.1
  have hb := k_bds hk
  rcases k_wy_0 hv with rfl | ⟨x, j, hx, rfl, hn, hp, hg, hj⟩
  · rw [show k_mk K (-1) = (k_tot K, k_day K) from if_pos rfl, j_m1i]
    obtain ⟨M1, e1, q1, c1⟩ := r_day (d := d) h
    refine ⟨M1, ?_, q1, c1⟩
    rw [E_X12_does]
    simp (disch := omega) only [q_ckt, q_lt, q_cI, q_cJ, q_cV, q_cP, q_xI, q_xV, q_xP, q_xJ, g_gk, g_ga, g_gw, g_gp, g_gq, g_P, g_J, q_I_s, q_I_n, q_I_k, nI_add, pk_sub, pk_mul, nI_clamp, n_lt0, n_0lt, n_eq0, n_lt, n_le, n_eq, n_m1, n_m2, n_m9, n_12, n_19, n_10, n_01, n_1n1, n_0n1, n_1n0, n_0n0, n_dI, n_m1lt, q_inb, n_nar, n_nar0, n_nar1, n_bool, Bool.false_eq_true, Bool.true_eq_false, if_true, if_false, ↓reduceIte, Nat.reduceAdd, Nat.reduceMul, Nat.reduceSub, Nat.reduceLT, Nat.reduceLeDiff, Nat.reduceEqDiff, Nat.reduceMod, Nat.reduceDiv, q_R h.1, e1]
  · obtain ⟨ho, hok⟩ := k_mk_o hk hv
    have okk : k_ok (k_mk K (nJ x)).2 := ⟨k_okT_cg (fun k h1 h2 => ho k (by omega)) (fun k h1 => ho k (by omega)) hk.1, hok⟩
    rw [k_mk_J hx hn] at okk ⊢
    dsimp only at okk ⊢
    rw [j_E x hx]
    unfold k_mx at okk ⊢
    by_cases q : x < 100
    · rw [if_pos q] at hg okk ⊢
      refine ⟨ir_sI M 413 (18 + x / 10) (nI (x % 10)), ?_, q_eq.sI (by simp), h.1, okk, fun k => by rw [q_I_u, h.2.2]; rfl⟩
      rw [E_X12_does]
      simp (disch := omega) only [q_ckt, q_lt, q_cI, q_cJ, q_cV, q_cP, q_xI, q_xV, q_xP, q_xJ, g_gk, g_ga, g_gw, g_gp, g_gq, g_P, g_J, q_I_s, q_I_n, q_I_k, nI_add, pk_sub, pk_mul, nI_clamp, n_lt0, n_0lt, n_eq0, n_lt, n_le, n_eq, n_m1, n_m2, n_m9, n_12, n_19, n_10, n_01, n_1n1, n_0n1, n_1n0, n_0n0, n_dI, n_m1lt, q_inb, n_nar, n_nar0, n_nar1, n_bool, Bool.false_eq_true, Bool.true_eq_false, if_true, if_false, ↓reduceIte, Nat.reduceAdd, Nat.reduceMul, Nat.reduceSub, Nat.reduceLT, Nat.reduceLeDiff, Nat.reduceEqDiff, Nat.reduceMod, Nat.reduceDiv, q_R h.1, j_H x hx, j_G x hx, q]
      rw [show x - x / 10 * 10 = x % 10 by omega]
    · rw [if_neg q] at hg okk ⊢
      rw [hj] at okk ⊢
      dsimp only at okk ⊢
      obtain ⟨hjm, hqj⟩ := k_pl_some hj
      obtain ⟨M1, e1, q1, a1⟩ := r_moves (d := d + 4) h hjm hg
      rw [hqj] at e1
      refine ⟨M1, ?_, q1.sub (by decide), q_PI_eq q1 h.1, okk, a1⟩
      rw [E_X12_does]
      simp (disch := omega) only [q_ckt, q_lt, q_cI, q_cJ, q_cV, q_cP, q_xI, q_xV, q_xP, q_xJ, g_gk, g_ga, g_gw, g_gp, g_gq, g_P, g_J, q_I_s, q_I_n, q_I_k, nI_add, pk_sub, pk_mul, nI_clamp, n_lt0, n_0lt, n_eq0, n_lt, n_le, n_eq, n_m1, n_m2, n_m9, n_12, n_19, n_10, n_01, n_1n1, n_0n1, n_1n0, n_0n0, n_dI, n_m1lt, q_inb, n_nar, n_nar0, n_nar1, n_bool, Bool.false_eq_true, Bool.true_eq_false, if_true, if_false, ↓reduceIte, Nat.reduceAdd, Nat.reduceMul, Nat.reduceSub, Nat.reduceLT, Nat.reduceLeDiff, Nat.reduceEqDiff, Nat.reduceMod, Nat.reduceDiv, q_R h.1, j_F x hx, j_G x hx, q, e1]
end TL
