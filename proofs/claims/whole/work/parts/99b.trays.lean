/-! trays -/
section LG
variable {M : ir_M} {a b k j c n : Nat} {v : Int64} {i : Int32}
theorem s_gk : ir_gk (ir_sJ M a k v) b c = ir_gk M b c := rfl
theorem s_gp : ir_gp (ir_sJ M a k v) b c n = ir_gp M b c n := rfl
theorem s_gq : ir_gq (ir_sJ M a k v) b c = ir_gq M b c := rfl
theorem s_P : ir_P (ir_sJ M a k v) b n = ir_P M b n := rfl
theorem s_I : ir_I (ir_sJ M a k v) b n = ir_I M b n := rfl
theorem s_J : ir_J (ir_sJ M a k v) a j = if j = k then v else ir_J M a j := by
  show (if a = a then vp_updL (M.2.1 a) k v else M.2.1 a) j = _
  rw [if_pos rfl]
  rfl
theorem s_Jn (h : b ≠ a) : ir_J (ir_sJ M a k v) b j = ir_J M b j := by
  show (if b = a then vp_updL (M.2.1 a) k v else M.2.1 b) j = _
  rw [if_neg h]
  rfl
theorem s_Js : ir_J (ir_sJ M a k v) a k = v := by rw [s_J, if_pos rfl]
end LG
/-- numbers cut -/
def k_cut (so : Nat) (v : Int64) : Int64 := if so = 0 then v.toInt32.toInt8.toInt32.toInt64 else if so = 1 then v.toInt32.toInt16.toInt32.toInt64 else if so = 2 then v.toInt32.toInt64 else v
theorem n_bvJ {a b : Int64} (h : a.toBitVec = b.toBitVec) : a = b := Int64.toBitVec_inj.mp h
theorem n_cut (so : Nat) (h : so < 4) (v : Int64) : (v <<< ((nI 64 - (nI 8 <<< (nI so &&& 31))).toInt64 &&& 63)) >>> ((nI 64 - (nI 8 <<< (nI so &&& 31))).toInt64 &&& 63) = k_cut so v := by
  have : so = 0 ∨ so = 1 ∨ so = 2 ∨ so = 3 := by omega
  rcases this with rfl | rfl | rfl | rfl
  · rw [show ((nI 64 - (nI 8 <<< (nI 0 &&& 31))).toInt64 &&& 63) = 56 by decide +kernel]
    apply n_bvJ
    show (v.toBitVec <<< (56#64).toNat).sshiftRight (56#64).toNat = (((v.toBitVec.signExtend 32).signExtend 8).signExtend 32).signExtend 64
    apply BitVec.eq_of_getLsbD_eq
    intro i hi
    rw [show (56#64).toNat = 56 from rfl]
    simp only [BitVec.getLsbD_sshiftRight, BitVec.getLsbD_shiftLeft, BitVec.getLsbD_signExtend, BitVec.msb_eq_getLsbD_last]
    by_cases q : i < 8
    · simp [q, hi, show i < 32 by omega, show 56 + i < 64 by omega, show ¬ 56 + i < 56 by omega, show 56 + i - 56 = i by omega]
    · by_cases q2 : i < 32 <;> simp [q, q2, hi, show ¬ 56 + i < 64 by omega, show ¬ 64 ≤ i by omega]
  · rw [show ((nI 64 - (nI 8 <<< (nI 1 &&& 31))).toInt64 &&& 63) = 48 by decide +kernel]
    apply n_bvJ
    show (v.toBitVec <<< (48#64).toNat).sshiftRight (48#64).toNat = (((v.toBitVec.signExtend 32).signExtend 16).signExtend 32).signExtend 64
    apply BitVec.eq_of_getLsbD_eq
    intro i hi
    rw [show (48#64).toNat = 48 from rfl]
    simp only [BitVec.getLsbD_sshiftRight, BitVec.getLsbD_shiftLeft, BitVec.getLsbD_signExtend, BitVec.msb_eq_getLsbD_last]
    by_cases q : i < 16
    · simp [q, hi, show i < 32 by omega, show 48 + i < 64 by omega, show ¬ 48 + i < 48 by omega, show 48 + i - 48 = i by omega]
    · by_cases q2 : i < 32 <;> simp [q, q2, hi, show ¬ 48 + i < 64 by omega, show ¬ 64 ≤ i by omega]
  · rw [show ((nI 64 - (nI 8 <<< (nI 2 &&& 31))).toInt64 &&& 63) = 32 by decide +kernel]
    apply n_bvJ
    show (v.toBitVec <<< (32#64).toNat).sshiftRight (32#64).toNat = (v.toBitVec.signExtend 32).signExtend 64
    apply BitVec.eq_of_getLsbD_eq
    intro i hi
    rw [show (32#64).toNat = 32 from rfl]
    simp only [BitVec.getLsbD_sshiftRight, BitVec.getLsbD_shiftLeft, BitVec.getLsbD_signExtend, BitVec.msb_eq_getLsbD_last]
    by_cases q : i < 32
    · simp [q, hi, show 32 + i < 64 by omega, show ¬ 32 + i < 32 by omega, show 32 + i - 32 = i by omega]
    · simp [q, hi, show ¬ 32 + i < 64 by omega]
  · rw [show ((nI 64 - (nI 8 <<< (nI 3 &&& 31))).toInt64 &&& 63) = 0 by decide +kernel]
    apply n_bvJ
    show (v.toBitVec <<< (0#64).toNat).sshiftRight (0#64).toNat = v.toBitVec
    apply BitVec.eq_of_getLsbD_eq
    intro i hi
    rw [show (0#64).toNat = 0 from rfl]
    simp [BitVec.getLsbD_sshiftRight, hi]
/-! arrays filled -/
theorem q_gl0 {M : ir_M} {a : Nat} (h : q_PI M) (e : (Nat.ble 100 (ir_kd a) && Nat.blt a 437) = true) : ir_gl M a = true := by
  unfold ir_gl
  have h1 : ir_nx M = 437 := h.1
  rw [h1]
  rw [Bool.and_eq_true] at e
  rw [e.1, e.2]
  rfl
theorem f_J {M : ir_M} {a N d : Nat} {v : Int64} (hp : q_PI M) (hN : N < 2 ^ 31) (hg : (Nat.ble 100 (ir_kd a) && Nat.blt a 437) = true) (hl : ir_ln M a = N) (hw : ∀ M', q_PI M' → ∀ i, ir_gw M' a 101 i = ir_inb i N) : ∃ M', m_J7_fill_d0a16 (d + 1) a v M = ir_oV M' ∧ M'.1 = M.1 ∧ M'.2.2 = M.2.2 ∧ (∀ b, b ≠ a → M'.2.1 b = M.2.1 b) ∧ ∀ k, k < N → ir_J M' a k = v := by
  have Lp := q_up (σ := ir_M) (V := fun x t => v_J7_fill_d0a16_6 d a v (nI x) (nI N) t) (N := N) (I := fun x t => t.1 = M.1 ∧ t.2.2 = M.2.2 ∧ (∀ b, b ≠ a → t.2.1 b = M.2.1 b) ∧ ∀ k, k < x → ir_J t a k = v) (K := ir_oV) (by
    rintro x t hx ⟨h1, h2, h3, h4⟩
    have hpt : q_PI t := by
      refine ⟨?_, fun l hl e he => ?_, ?_⟩
      · show t.2.2.2.1 = 437
        rw [h2]
        exact hp.1
      · rw [h2]
        exact hp.2.1 l hl e he
      · rw [h2]
        exact hp.2.2
    refine ⟨ir_sJ t a x v, ⟨h1, h2, fun b hb => ?_, fun k hk => ?_⟩, ?_⟩
    · exact (if_neg hb).trans (h3 b hb)
    · rw [s_J]
      by_cases q : k = x
      · rw [if_pos q]
      · rw [if_neg q]
        exact h4 k (by omega)
    · rw [l_J7_fill_d0a16_6]
      rw [show (1 : Int32) = nI 1 from rfl]
      simp (disch := omega) only [q_ckt, q_lt, q_cI, q_cJ, q_cV, q_cP, q_xI, q_xV, q_xP, q_xJ, g_gk, g_ga, g_gw, g_gp, g_gq, g_P, g_J, q_I_s, q_I_n, q_I_k, nI_add, pk_sub, pk_mul, nI_clamp, n_lt0, n_0lt, n_eq0, n_lt, n_le, n_eq, n_m1, n_m2, n_m9, n_12, n_19, n_10, n_01, n_1n1, n_0n1, n_1n0, n_0n0, n_dI, n_m1lt, q_inb, n_nar, n_nar0, n_nar1, n_bool, Bool.false_eq_true, Bool.true_eq_false, if_true, if_false, ↓reduceIte, Nat.reduceAdd, Nat.reduceMul, Nat.reduceSub, Nat.reduceLT, Nat.reduceLeDiff, Nat.reduceEqDiff, Nat.reduceMod, Nat.reduceDiv, hx, hw t hpt]) (by
    rintro t ⟨h1, h2, h3, h4⟩
    rw [l_J7_fill_d0a16_6]
    simp (disch := omega) only [q_ckt, q_lt, q_cI, q_cJ, q_cV, q_cP, q_xI, q_xV, q_xP, q_xJ, g_gk, g_ga, g_gw, g_gp, g_gq, g_P, g_J, q_I_s, q_I_n, q_I_k, nI_add, pk_sub, pk_mul, nI_clamp, n_lt0, n_0lt, n_eq0, n_lt, n_le, n_eq, n_m1, n_m2, n_m9, n_12, n_19, n_10, n_01, n_1n1, n_0n1, n_1n0, n_0n0, n_dI, n_m1lt, q_inb, n_nar, n_nar0, n_nar1, n_bool, Bool.false_eq_true, Bool.true_eq_false, if_true, if_false, ↓reduceIte, Nat.reduceAdd, Nat.reduceMul, Nat.reduceSub, Nat.reduceLT, Nat.reduceLeDiff, Nat.reduceEqDiff, Nat.reduceMod, Nat.reduceDiv, Nat.lt_irrefl]) (i := 0) (t := M) (by omega) ⟨rfl, rfl, fun _ _ => rfl, fun k hk => absurd hk (by omega)⟩
  obtain ⟨t, ⟨h1, h2, h3, h4⟩, ee⟩ := Lp
  refine ⟨t, ?_, h1, h2, h3, h4⟩
  rw [e_J7_fill_d0a16, q_gl0 hp hg, q_ckt, hl]
  exact ee
theorem f_I {M : ir_M} {a N d : Nat} {v : Int32} (hp : q_PI M) (hN : N < 2 ^ 31) (hg : (Nat.ble 100 (ir_kd a) && Nat.blt a 437) = true) (hl : ir_ln M a = N) (hw : ∀ M', q_PI M' → ∀ i, ir_gw M' a 100 i = ir_inb i N) : ∃ M', m_J7_fill_53178 (d + 1) a v M = ir_oV M' ∧ q_eq [a] M M' ∧ ∀ k, k < N → ir_I M' a k = v := by
  have Lp := q_up (σ := ir_M) (V := fun x t => v_J7_fill_53178_5 d a v (nI x) (nI N) t) (N := N) (I := fun x t => q_eq [a] M t ∧ ∀ k, k < x → ir_I t a k = v) (K := ir_oV) (by
    rintro x t hx ⟨h1, h4⟩
    have hpt := q_PI_eq h1 hp
    refine ⟨ir_sI t a x v, ⟨h1.tr (q_eq.sI (by simp)), fun k hk => ?_⟩, ?_⟩
    · rw [q_I_u]
      by_cases q : k = x
      · rw [if_pos q]
      · rw [if_neg q]
        exact h4 k (by omega)
    · rw [l_J7_fill_53178_5]
      rw [show (1 : Int32) = nI 1 from rfl]
      simp (disch := omega) only [q_ckt, q_lt, q_cI, q_cJ, q_cV, q_cP, q_xI, q_xV, q_xP, q_xJ, g_gk, g_ga, g_gw, g_gp, g_gq, g_P, g_J, q_I_s, q_I_n, q_I_k, nI_add, pk_sub, pk_mul, nI_clamp, n_lt0, n_0lt, n_eq0, n_lt, n_le, n_eq, n_m1, n_m2, n_m9, n_12, n_19, n_10, n_01, n_1n1, n_0n1, n_1n0, n_0n0, n_dI, n_m1lt, q_inb, n_nar, n_nar0, n_nar1, n_bool, Bool.false_eq_true, Bool.true_eq_false, if_true, if_false, ↓reduceIte, Nat.reduceAdd, Nat.reduceMul, Nat.reduceSub, Nat.reduceLT, Nat.reduceLeDiff, Nat.reduceEqDiff, Nat.reduceMod, Nat.reduceDiv, hx, hw t hpt]) (by
    rintro t ⟨h1, h4⟩
    rw [l_J7_fill_53178_5]
    simp (disch := omega) only [q_ckt, q_lt, q_cI, q_cJ, q_cV, q_cP, q_xI, q_xV, q_xP, q_xJ, g_gk, g_ga, g_gw, g_gp, g_gq, g_P, g_J, q_I_s, q_I_n, q_I_k, nI_add, pk_sub, pk_mul, nI_clamp, n_lt0, n_0lt, n_eq0, n_lt, n_le, n_eq, n_m1, n_m2, n_m9, n_12, n_19, n_10, n_01, n_1n1, n_0n1, n_1n0, n_0n0, n_dI, n_m1lt, q_inb, n_nar, n_nar0, n_nar1, n_bool, Bool.false_eq_true, Bool.true_eq_false, if_true, if_false, ↓reduceIte, Nat.reduceAdd, Nat.reduceMul, Nat.reduceSub, Nat.reduceLT, Nat.reduceLeDiff, Nat.reduceEqDiff, Nat.reduceMod, Nat.reduceDiv, Nat.lt_irrefl]) (i := 0) (t := M) (by omega) ⟨q_eq.rf _ _, fun k hk => absurd hk (by omega)⟩
  obtain ⟨t, ⟨h1, h4⟩, ee⟩ := Lp
  refine ⟨t, ?_, h1, h4⟩
  rw [e_J7_fill_53178, q_gl0 hp hg, q_ckt, hl]
  exact ee
/-! one tray changes -/
def q_ft (i : Nat) (M M' : ir_M) : Prop := q_go 0 M M' ∧ q_v1 M M' ∧ (∀ a k, q_l2 a k = true → a ≠ 404 + 2 * i → ¬ (a = 433 ∧ k = i) → ¬ (a = 434 ∧ k = i) → M'.1 a k = M.1 a k) ∧ (∀ a, q_l2j a = true → a ≠ 405 + 2 * i → a ≠ 435 → M'.2.1 a = M.2.1 a) ∧ (∀ k, ¬ (30 * i ≤ k ∧ k < 30 * i + 30) → M'.2.1 435 k = M.2.1 435 k) ∧ q_v3 M M'
theorem q_ft.tr {i : Nat} {A B C : ir_M} (h : q_ft i A B) (g : q_ft i B C) : q_ft i A C := ⟨h.1.tr g.1, fun a ha => (g.2.1 a ha).trans (h.2.1 a ha), fun a k ha h1 h2 h3 => (g.2.2.1 a k ha h1 h2 h3).trans (h.2.2.1 a k ha h1 h2 h3), fun a ha h1 h2 => (g.2.2.2.1 a ha h1 h2).trans (h.2.2.2.1 a ha h1 h2), fun k hk => (g.2.2.2.2.1 k hk).trans (h.2.2.2.2.1 k hk), fun a k ha => (g.2.2.2.2.2 a k ha).trans (h.2.2.2.2.2 a k ha)⟩
theorem q_ft_st {i : Nat} {M M' : ir_M} (s : q_st 0 M M') : q_ft i M M' := ⟨s.1, s.2.1, fun a k ha _ _ _ => s.2.2.1.1 a k ha, fun a ha _ _ => s.2.2.1.2 a ha, fun k _ => congrFun (s.2.2.1.2 435 rfl) k, s.2.2.2⟩
theorem q_4 {i : Nat} (hi : i < 4) : q_l1 (404 + 2 * i) = false ∧ (∀ k, q_l3 (404 + 2 * i) k = false) ∧ q_l2j (405 + 2 * i) = true := by
  have : i = 0 ∨ i = 1 ∨ i = 2 ∨ i = 3 := by omega
  rcases this with rfl | rfl | rfl | rfl <;> exact ⟨rfl, fun _ => rfl, rfl⟩
theorem q_ft_c {i k : Nat} {v : Int32} {M : ir_M} (hp : q_PI M) (hi : i < 4) : q_ft i M (ir_sI M (404 + 2 * i) k v) := by
  have ne : ∀ a, a ≠ 404 + 2 * i → (ir_sI M (404 + 2 * i) k v).1 a = M.1 a := fun a ha => if_neg ha
  obtain ⟨z1, z2, -⟩ := q_4 hi
  exact ⟨⟨hp, fun a ha => ⟨ne a (by omega), rfl, rfl⟩, Nat.le_refl _, Nat.le_refl _⟩, fun a ha => ne a (fun q => by rw [q, z1] at ha; exact nomatch ha), fun a k' _ h1 _ _ => congrFun (ne a h1) k', fun _ _ _ _ => rfl, fun _ _ => rfl, fun a k' ha => congrFun (ne a (fun q => by rw [q, z2] at ha; exact nomatch ha)) k'⟩
theorem q_ft_J {i a k : Nat} {v : Int64} {M : ir_M} (hp : q_PI M) (ha : a = 405 + 2 * i ∨ (a = 435 ∧ 30 * i ≤ k ∧ k < 30 * i + 30)) (hi : i < 4) : q_ft i M (ir_sJ M a k v) := by
  have ne : ∀ x, x ≠ a → (ir_sJ M a k v).2.1 x = M.2.1 x := fun x hx => if_neg hx
  refine ⟨⟨hp, fun x hx => ⟨rfl, ne x (by omega), rfl⟩, Nat.le_refl _, Nat.le_refl _⟩, fun _ _ => rfl, fun _ _ _ _ _ _ => rfl, fun x _ h1 h2 => ne x (by omega), fun k' hk' => ?_, fun _ _ _ => rfl⟩
  by_cases q : a = 435
  · subst q
    have := s_J (M := M) (a := 435) (k := k) (j := k') (v := v)
    rw [if_neg (by omega)] at this
    exact this
  · exact congrFun (ne 435 (by omega)) k'
theorem q_ft_r {i a : Nat} {v : Int32} {M : ir_M} (hp : q_PI M) (ha : a = 433 ∨ a = 434) : q_ft i M (ir_sI M a i v) := by
  have ne : ∀ x, x ≠ a → (ir_sI M a i v).1 x = M.1 x := fun x hx => if_neg hx
  have z1 : q_l1 a = false := by rcases ha with rfl | rfl <;> rfl
  have z2 : ∀ k, q_l3 a k = false := by rcases ha with rfl | rfl <;> exact fun _ => rfl
  refine ⟨⟨hp, fun x hx => ⟨ne x (by omega), rfl, rfl⟩, Nat.le_refl _, Nat.le_refl _⟩, fun x hx => ne x (fun q => by rw [q, z1] at hx; exact nomatch hx), fun x k _ _ h2 h3 => ?_, fun _ _ _ _ => rfl, fun _ _ => rfl, fun x k hx => congrFun (ne x (fun q => by rw [q, z2] at hx; exact nomatch hx)) k⟩
  by_cases q : x = a
  · subst q
    exact q_I_k (M := M) (a := x) (by omega)
  · exact congrFun (ne x q) k
theorem q_Iv_ft {L : Nat} {xs : Nat → Int32} {j i : Nat} {M M' : ir_M} (hi : i < 4) (hI : q_Iv L xs j M) (f : q_ft i M M') (ht : c_ty M' i) : q_Iv L xs (j + 1) M' := by
  obtain ⟨g, v1, f2, f3, f4, v3⟩ := f
  have hx := q_Iv_X hI g
  obtain ⟨-, -, h3, h4, h5, ⟨i1, i2, ⟨tp, t1, t2, t3, t4⟩, i4, i5⟩, h7⟩ := hI
  have F : ∀ a k, q_l2 a k = true → (a < 404 ∨ 411 < a) → a ≠ 433 → a ≠ 434 → ir_I M' a k = ir_I M a k := fun a k h1 h2 h3 h4 => f2 a k h1 (by omega) (by omega) (by omega)
  refine ⟨hx.1, hx.2, by have := g.2.2.1; omega, by have := g.2.2.2; omega, c_I1_fr v1 h5, ⟨fun x hx => ?_, fun x hx => ?_, ⟨tp, t1, (F 1 1 rfl (by omega) (by omega) (by omega)).trans t2, (F 412 6 rfl (by omega) (by omega) (by omega)).trans t3, fun k hk => ?_⟩, ?_, ?_⟩, c_I3_fr v3 (v1 413 rfl) h7⟩
  · have e : k_im M' x = k_im M x := funext fun k => by
      unfold k_im
      rw [show M'.1 415 (1640 * x + k) = M.1 415 (1640 * x + k) from F 415 _ rfl (by omega) (by omega) (by omega)]
    rw [e, F 98 x rfl (by omega) (by omega) (by omega), F 416 x rfl (by omega) (by omega) (by omega)]
    rcases i1 x hx with q | ⟨q1, q2, q3, q4⟩
    · exact Or.inl q
    · exact Or.inr ⟨q1, q2, q3, c_sc_fr (fun j hj h6 => funext fun k => F _ k (q_l2_of (by omega)) (by omega) (by omega) (by omega)) q4⟩
  · by_cases q : x = i
    · rw [q]; exact ht
    · have fa : ∀ k, ir_I M' (404 + 2 * x) k = ir_I M (404 + 2 * x) k := fun k => f2 _ k (q_l2_of (by omega)) (by omega) (by omega) (by omega)
      have fb : ir_I M' 433 x = ir_I M 433 x := f2 433 x rfl (by omega) (by omega) (by omega)
      have fc : ir_I M' 434 x = ir_I M 434 x := f2 434 x rfl (by omega) (by omega) (by omega)
      have fd : ∀ k, ir_J M' (405 + 2 * x) k = ir_J M (405 + 2 * x) k := fun k => congrFun (f3 _ (q_4 hx).2.2 (by omega) (by omega)) k
      have := i2 x hx
      unfold c_ty at this ⊢
      rw [fb]
      simp only [fa, fc, fd]
      rcases this with z | ⟨z0, so, mn, z1, z2, z3, z4, z5, z6, z7⟩
      · exact Or.inl z
      · exact Or.inr ⟨z0, so, mn, z1, z2, z3, z4, z5, z6, fun k hk => (z7 k hk).trans (f4 (30 * x + k) (by omega)).symm⟩
  · rw [F 417 k rfl (by omega) (by omega) (by omega), F 2 k rfl (by omega) (by omega) (by omega)]
    exact t4 k hk
  · rw [F 1 2 rfl (by omega) (by omega) (by omega), F 412 14 rfl (by omega) (by omega) (by omega)]
    exact i4
  · refine ⟨?_, fun k hk => (F 115 k rfl (by omega) (by omega) (by omega)).trans (i5.2 k hk)⟩
    rw [F 1 3 rfl (by omega) (by omega) (by omega), F 412 15 rfl (by omega) (by omega) (by omega)]
    exact i5.1
section TP
variable {M : ir_M} {d i : Nat}
theorem c_put (hp : q_PI M) (hi : i < 4) {so mn k : Nat} (hs : so < 4) (h2 : ir_I M (404 + 2 * i) 2 = nI so) (h1 : ir_I M (404 + 2 * i) 1 = nI mn) (h30 : mn ≤ 30) (hk : k < mn) (v : Int64) : m_X10_put (d + 2) (404 + 2 * i) (nI k) v M = ir_oJ (k_cut so v) (ir_sJ M (405 + 2 * i) k (k_cut so v)) := by
  have cut : m_X10_cut (d + 1) (404 + 2 * i) v M = ir_oJ (k_cut so v) M := by
    rw [E_X10_cut]
    unfold k_cut
    by_cases q0 : so = 0
    · simp (disch := omega) only [q_ckt, q_lt, q_cI, q_cJ, q_cV, q_cP, q_xI, q_xV, q_xP, q_xJ, g_gk, g_ga, g_gw, g_gp, g_gq, g_P, g_J, q_I_s, q_I_n, q_I_k, nI_add, pk_sub, pk_mul, nI_clamp, n_lt0, n_0lt, n_eq0, n_lt, n_le, n_eq, n_m1, n_m2, n_m9, n_12, n_19, n_10, n_01, n_1n1, n_0n1, n_1n0, n_0n0, n_dI, n_m1lt, q_inb, n_nar, n_nar0, n_nar1, n_bool, Bool.false_eq_true, Bool.true_eq_false, if_true, if_false, ↓reduceIte, Nat.reduceAdd, Nat.reduceMul, Nat.reduceSub, Nat.reduceLT, Nat.reduceLeDiff, Nat.reduceEqDiff, Nat.reduceMod, Nat.reduceDiv, q_Yt hp hi, h2, q0]
    · by_cases q1 : so = 1
      · simp (disch := omega) only [q_ckt, q_lt, q_cI, q_cJ, q_cV, q_cP, q_xI, q_xV, q_xP, q_xJ, g_gk, g_ga, g_gw, g_gp, g_gq, g_P, g_J, q_I_s, q_I_n, q_I_k, nI_add, pk_sub, pk_mul, nI_clamp, n_lt0, n_0lt, n_eq0, n_lt, n_le, n_eq, n_m1, n_m2, n_m9, n_12, n_19, n_10, n_01, n_1n1, n_0n1, n_1n0, n_0n0, n_dI, n_m1lt, q_inb, n_nar, n_nar0, n_nar1, n_bool, Bool.false_eq_true, Bool.true_eq_false, if_true, if_false, ↓reduceIte, Nat.reduceAdd, Nat.reduceMul, Nat.reduceSub, Nat.reduceLT, Nat.reduceLeDiff, Nat.reduceEqDiff, Nat.reduceMod, Nat.reduceDiv, q_Yt hp hi, h2, q1]
      · by_cases q2 : so = 2
        · simp (disch := omega) only [q_ckt, q_lt, q_cI, q_cJ, q_cV, q_cP, q_xI, q_xV, q_xP, q_xJ, g_gk, g_ga, g_gw, g_gp, g_gq, g_P, g_J, q_I_s, q_I_n, q_I_k, nI_add, pk_sub, pk_mul, nI_clamp, n_lt0, n_0lt, n_eq0, n_lt, n_le, n_eq, n_m1, n_m2, n_m9, n_12, n_19, n_10, n_01, n_1n1, n_0n1, n_1n0, n_0n0, n_dI, n_m1lt, q_inb, n_nar, n_nar0, n_nar1, n_bool, Bool.false_eq_true, Bool.true_eq_false, if_true, if_false, ↓reduceIte, Nat.reduceAdd, Nat.reduceMul, Nat.reduceSub, Nat.reduceLT, Nat.reduceLeDiff, Nat.reduceEqDiff, Nat.reduceMod, Nat.reduceDiv, q_Yt hp hi, h2, q2]
        · simp (disch := omega) only [q_ckt, q_lt, q_cI, q_cJ, q_cV, q_cP, q_xI, q_xV, q_xP, q_xJ, g_gk, g_ga, g_gw, g_gp, g_gq, g_P, g_J, q_I_s, q_I_n, q_I_k, nI_add, pk_sub, pk_mul, nI_clamp, n_lt0, n_0lt, n_eq0, n_lt, n_le, n_eq, n_m1, n_m2, n_m9, n_12, n_19, n_10, n_01, n_1n1, n_0n1, n_1n0, n_0n0, n_dI, n_m1lt, q_inb, n_nar, n_nar0, n_nar1, n_bool, Bool.false_eq_true, Bool.true_eq_false, if_true, if_false, ↓reduceIte, Nat.reduceAdd, Nat.reduceMul, Nat.reduceSub, Nat.reduceLT, Nat.reduceLeDiff, Nat.reduceEqDiff, Nat.reduceMod, Nat.reduceDiv, q_Yt hp hi, h2, q0, q1, q2]
  rw [E_X10_put]
  simp (disch := omega) only [q_ckt, q_lt, q_cI, q_cJ, q_cV, q_cP, q_xI, q_xV, q_xP, q_xJ, g_gk, g_ga, g_gw, g_gp, g_gq, g_P, g_J, q_I_s, q_I_n, q_I_k, nI_add, pk_sub, pk_mul, nI_clamp, n_lt0, n_0lt, n_eq0, n_lt, n_le, n_eq, n_m1, n_m2, n_m9, n_12, n_19, n_10, n_01, n_1n1, n_0n1, n_1n0, n_0n0, n_dI, n_m1lt, q_inb, n_nar, n_nar0, n_nar1, n_bool, Bool.false_eq_true, Bool.true_eq_false, if_true, if_false, ↓reduceIte, Nat.reduceAdd, Nat.reduceMul, Nat.reduceSub, Nat.reduceLT, Nat.reduceLeDiff, Nat.reduceEqDiff, Nat.reduceMod, Nat.reduceDiv, q_Yt hp hi, h1, hk, cut, q_Yt (M := ir_sJ M (405 + 2 * i) k (k_cut so v)) hp hi, s_Js]
theorem r_cut (hp : q_PI M) (hi : i < 4) {so k : Nat} (hs : so < 4) (h2 : ir_I M 433 i = nI so) (hk : k < 30) (v : Int64) : m_X12_cut (d + 1) 412 (nI i) (nI k) v M = ir_oJ (k_cut so v) (ir_sJ M 435 (30 * i + k) (k_cut so v)) := by
  rw [E_X12_cut]
  simp (disch := omega) only [q_ckt, q_lt, q_cI, q_cJ, q_cV, q_cP, q_xI, q_xV, q_xP, q_xJ, g_gk, g_ga, g_gw, g_gp, g_gq, g_P, g_J, q_I_s, q_I_n, q_I_k, nI_add, pk_sub, pk_mul, nI_clamp, n_lt0, n_0lt, n_eq0, n_lt, n_le, n_eq, n_m1, n_m2, n_m9, n_12, n_19, n_10, n_01, n_1n1, n_0n1, n_1n0, n_0n0, n_dI, n_m1lt, q_inb, n_nar, n_nar0, n_nar1, n_bool, Bool.false_eq_true, Bool.true_eq_false, if_true, if_false, ↓reduceIte, Nat.reduceAdd, Nat.reduceMul, Nat.reduceSub, Nat.reduceLT, Nat.reduceLeDiff, Nat.reduceEqDiff, Nat.reduceMod, Nat.reduceDiv, q_R hp, h2]
  rw [n_cut so hs]
  simp (disch := omega) only [q_ckt, q_lt, q_cI, q_cJ, q_cV, q_cP, q_xI, q_xV, q_xP, q_xJ, g_gk, g_ga, g_gw, g_gp, g_gq, g_P, g_J, q_I_s, q_I_n, q_I_k, nI_add, pk_sub, pk_mul, nI_clamp, n_lt0, n_0lt, n_eq0, n_lt, n_le, n_eq, n_m1, n_m2, n_m9, n_12, n_19, n_10, n_01, n_1n1, n_0n1, n_1n0, n_0n0, n_dI, n_m1lt, q_inb, n_nar, n_nar0, n_nar1, n_bool, Bool.false_eq_true, Bool.true_eq_false, if_true, if_false, ↓reduceIte, Nat.reduceAdd, Nat.reduceMul, Nat.reduceSub, Nat.reduceLT, Nat.reduceLeDiff, Nat.reduceEqDiff, Nat.reduceMod, Nat.reduceDiv, q_R (M := ir_sJ M 435 (30 * i + k) (k_cut so v)) hp, s_Js]
end TP
