/-! deeds: what they may change; how they make a step -/
def q_pc (a : Nat) : Bool := (Nat.ble 3 a && Nat.ble a 90) || Nat.beq a 121 || Nat.beq a 1 || q_tmp a
def q_pr (a : Nat) : Bool := Nat.beq a 413 || Nat.beq a 412 || q_tmp a
def q_dc (M M' : ir_M) : Prop := (∀ a, q_pc a = false → M'.1 a = M.1 a) ∧ (∀ k, k < 4 → M'.1 1 k = M.1 1 k) ∧ M'.2 = M.2
def q_dr (M M' : ir_M) : Prop := (∀ a, q_pr a = false → M'.1 a = M.1 a) ∧ (∀ k, q_l2 412 k = true → M'.1 412 k = M.1 412 k) ∧ M'.2 = M.2
theorem q_dc.tr {A B C : ir_M} (h : q_dc A B) (g : q_dc B C) : q_dc A C := ⟨fun a ha => (g.1 a ha).trans (h.1 a ha), fun k hk => (g.2.1 k hk).trans (h.2.1 k hk), g.2.2.trans h.2.2⟩
theorem q_dr.tr {A B C : ir_M} (h : q_dr A B) (g : q_dr B C) : q_dr A C := ⟨fun a ha => (g.1 a ha).trans (h.1 a ha), fun k hk => (g.2.1 k hk).trans (h.2.1 k hk), g.2.2.trans h.2.2⟩
theorem q_dc.rf {M : ir_M} : q_dc M M := ⟨fun _ _ => rfl, fun _ _ => rfl, rfl⟩
theorem q_dr.rf {M : ir_M} : q_dr M M := ⟨fun _ _ => rfl, fun _ _ => rfl, rfl⟩
theorem q_dc_eq {S : List Nat} {M M' : ir_M} (he : q_eq S M M') (hS : ∀ a ∈ S, q_pc a = true ∧ a ≠ 1) : q_dc M M' := ⟨fun a ha => he.1 a (fun q => by rw [(hS a q).1] at ha; exact nomatch ha), fun k _ => congrFun (he.1 1 (fun q => (hS 1 q).2 rfl)) k, he.2⟩
theorem q_dr_eq {S : List Nat} {M M' : ir_M} (he : q_eq S M M') (hS : ∀ a ∈ S, q_pr a = true ∧ a ≠ 412) : q_dr M M' := ⟨fun a ha => he.1 a (fun q => by rw [(hS a q).1] at ha; exact nomatch ha), fun k _ => congrFun (he.1 412 (fun q => (hS 412 q).2 rfl)) k, he.2⟩
theorem q_dr_4 {M : ir_M} {k : Nat} {v : Int32} (hk : q_l2 412 k = false) : q_dr M (ir_sI M 412 k v) := ⟨fun a ha => if_neg (fun q : a = 412 => by rw [q] at ha; exact nomatch ha), fun j hj => by
    by_cases q : j = k
    · rw [q, hk] at hj; exact nomatch hj
    · exact q_I_k (M := M) (a := 412) q, rfl⟩
theorem q_dc_1 {M : ir_M} {k : Nat} {v : Int32} (hk : 4 ≤ k) : q_dc M (ir_sI M 1 k v) := ⟨fun a ha => if_neg (fun q : a = 1 => by rw [q] at ha; exact nomatch ha), fun j hj => q_I_k (M := M) (a := 1) (by omega), rfl⟩
theorem q_PI_o {M M' : ir_M} (h : M'.2 = M.2) (hp : q_PI M) : q_PI M' := q_PI_eq (S := []) (M := (M'.1, M.2)) ⟨fun _ _ => rfl, h⟩ hp
theorem q_dc.p {M M' : ir_M} (h : q_dc M M') (hp : q_PI M) : q_PI M' := q_PI_o h.2.2 hp
theorem q_dr.p {M M' : ir_M} (h : q_dr M M') (hp : q_PI M) : q_PI M' := q_PI_o h.2.2 hp
theorem q_go_2 {M M' : ir_M} (hp : q_PI M) (h : M'.2 = M.2) (hx : ∀ a, 1000000 ≤ a → M'.1 a = M.1 a) : q_go 0 M M' := by
  refine ⟨q_PI_o h hp, fun a ha => ⟨hx a ha, by rw [h], by rw [h]⟩, ?_, ?_⟩
  · show M'.2.2.2.2.1 ≤ M.2.2.2.2.1 + 0
    rw [h]
    exact Nat.le_refl _
  · show M'.2.2.2.2.2.1 ≤ M.2.2.2.2.2.1 + 6 * 0
    rw [h]
    exact Nat.le_refl _
theorem q_pc_f {a : Nat} (h : 437 ≤ a) : q_pc a = false ∧ q_pr a = false := by
  have ht : q_tmp a = false := by
    cases e : q_tmp a
    · rfl
    · have := q_tmp_r e; omega
  have g : ∀ x, a ≠ x → Nat.beq a x = false := fun x hx => by
    cases e : Nat.beq a x
    · rfl
    · exact absurd (Nat.eq_of_beq_eq_true e) hx
  have l : Nat.ble a 90 = false := by
    cases e : Nat.ble a 90
    · rfl
    · have := Nat.le_of_ble_eq_true e; omega
  unfold q_pc q_pr
  rw [ht, l, g 121 (by omega), g 1 (by omega), g 413 (by omega), g 412 (by omega), Bool.and_false]
  exact ⟨rfl, rfl⟩
theorem q_pcr_2 : ∀ a, a < 437 → (q_pc a = true → a ≠ 1 → q_l2 a 0 = false ∧ Nat.beq a 412 = false) ∧ (q_pr a = true → a ≠ 412 → q_l2 a 0 = false ∧ Nat.beq a 1 = false) := by decide +kernel
theorem q_l2_0 {a k : Nat} (h1 : Nat.beq a 1 = false) (h2 : Nat.beq a 412 = false) : q_l2 a k = q_l2 a 0 := by
  unfold q_l2
  rw [h1, h2]
  rfl
theorem q_dc.v2 {M M' : ir_M} (h : q_dc M M') : q_v2 M M' := by
  refine ⟨fun a k ha => ?_, fun a _ => by rw [h.2.2]⟩
  by_cases q1 : a = 1
  · subst q1
    have e : q_l2 1 k = (Nat.ble 1 k && Nat.ble k 3) := by
      show ((Nat.ble 1 k && Nat.ble k 3) || false) = _
      exact Bool.or_false _
    rw [e] at ha
    simp only [Bool.and_eq_true, Nat.ble_eq] at ha
    exact h.2.1 k (by omega)
  · cases e : q_pc a with
    | false => exact congrFun (h.1 a e) k
    | true =>
      have hr : a < 437 := by
        rcases Nat.lt_or_ge a 437 with z | z
        · exact z
        · rw [(q_pc_f z).1] at e; exact nomatch e
      obtain ⟨w1, w2⟩ := (q_pcr_2 a hr).1 e q1
      have b1 : Nat.beq a 1 = false := by
        cases e : Nat.beq a 1
        · rfl
        · exact absurd (Nat.eq_of_beq_eq_true e) q1
      rw [q_l2_0 b1 w2, w1] at ha
      exact nomatch ha
theorem q_dr.v2 {M M' : ir_M} (h : q_dr M M') : q_v2 M M' := by
  refine ⟨fun a k ha => ?_, fun a _ => by rw [h.2.2]⟩
  by_cases q1 : a = 412
  · subst q1
    exact h.2.1 k ha
  · cases e : q_pr a with
    | false => exact congrFun (h.1 a e) k
    | true =>
      have hr : a < 437 := by
        rcases Nat.lt_or_ge a 437 with z | z
        · exact z
        · rw [(q_pc_f z).2] at e; exact nomatch e
      obtain ⟨w1, w2⟩ := (q_pcr_2 a hr).2 e q1
      have b1 : Nat.beq a 412 = false := by
        cases e : Nat.beq a 412
        · rfl
        · exact absurd (Nat.eq_of_beq_eq_true e) q1
      rw [q_l2_0 w2 b1, w1] at ha
      exact nomatch ha
theorem q_dc.go {M M' : ir_M} (h : q_dc M M') (hp : q_PI M) : q_go 0 M M' := q_go_2 hp h.2.2 (fun a ha => h.1 a (q_pc_f (by omega)).1)
theorem q_dr.go {M M' : ir_M} (h : q_dr M M') (hp : q_PI M) : q_go 0 M M' := q_go_2 hp h.2.2 (fun a ha => h.1 a (q_pc_f (by omega)).2)
theorem q_pr_3 : ∀ a, a < 91 → 3 ≤ a → a ≠ 9 → q_pr a = false := by decide +kernel
/-- a deed done: class, then out, then reference -/
def d_c (x : ir_M → ir_R) (M : ir_M) (v : Int32) (K' : Nat → Int32) : Prop := ∃ M1, x M = ir_oI v M1 ∧ q_dc M M1 ∧ ir_I M1 121 0 = 0 ∧ c_sc M1 3 K'
def d_r (g : ir_M → ir_R) (K : Nat → Int32) (v : Int32) (K' : Nat → Int32) : Prop := ∀ M, r_rl M K → ∃ M2, g M = ir_oI v M2 ∧ q_dr M M2 ∧ (∀ k, ir_I M2 413 k = K' k) ∧ ir_I M2 412 4 = nI 0
theorem q_Iv_d {L : Nat} {xs : Nat → Int32} {j : Nat} {M M1 M1' M2 : ir_M} {K' : Nat → Int32} (hI : q_Iv L xs j M) (d1 : q_dc M M1) (h0 : ir_I M1 121 0 = 0) (hs : c_sc M1 3 K') (hw : k_wf K') (s : q_st 0 M1 M1') (d2 : q_dr M1' M2) (hK : ∀ k, ir_I M2 413 k = K' k) : q_Iv L xs (j + 1) M2 := by
  have g1 := d1.go hI.1
  have g2 := d2.go s.1.1
  have g := (g1.tr s.1).tr g2
  have eK : M2.1 413 = K' := funext hK
  have hx := q_Iv_X hI g
  obtain ⟨-, -, h3, h4, h5, h6, h7⟩ := hI
  refine ⟨hx.1, hx.2, by have := g.2.2.1; omega, by have := g.2.2.2; omega, ?_, ?_, ?_⟩
  · refine ⟨by rw [eK]; exact hw, ?_⟩
    rw [eK]
    refine c_sc_fr (fun j hj h6 => ?_) hs
    rw [d2.1 _ (q_pr_3 _ (by omega) (by omega) (by omega)), s.2.1 _ (q_l1_of (by omega))]
  · exact c_I2_fr d2.v2 (c_I2_fr s.2.2.1 (c_I2_fr d1.v2 h6))
  · refine Or.inl ?_
    have e1 : ir_I M1' 121 0 = ir_I M1 121 0 := s.2.2.2 121 0 rfl
    exact (congrFun (d2.1 121 rfl) 0).trans (e1.trans h0)
section SD
variable {L : Nat} {xs : Nat → Int32} {f g x : ir_M → ir_R} {hd : Nat → ir_M → ir_R}
theorem q_Sd_mk (hw : c_W f x hd) (h : ∀ M, q_PI M → c_I M → (∃ v K', d_c x M v K' ∧ k_wf K' ∧ d_r g (M.1 413) v K') ∨ (∃ v, c_ans x M v ∧ ∀ M', q_st 0 M M' → r_ans g M' v 0) ∨ (∃ e k, 0 < k ∧ k < 9 ∧ x M = ir_oX e (ir_th M) ∧ (∀ M, hd e M = ir_oI (nI k) M) ∧ ∀ M', q_st 1 M M' → ∃ b, r_ans g M' b k)) : q_St L xs (q_Iv L xs) f g := by
  intro j M hI
  have hp := hI.1
  rcases h M hp hI.2.2.2.2 with ⟨v, K', ⟨M1, e1, d1, h0, hs⟩, hwf, hr⟩ | h'
  · have hp1 := d1.p hp
    have hJ := q_st_J hp1 (k := 0) (v := v.toInt64)
    have hk : ∀ k, ir_I (ir_sJ M1 436 0 v.toInt64) 413 k = M.1 413 k := fun k => congrFun (d1.1 413 rfl) k
    obtain ⟨M2, e2, d2, hK, h4⟩ := hr (ir_sJ M1 436 0 v.toInt64) ⟨hp1, hI.2.2.2.2.1.1.1, hk⟩
    have gX := q_Iv_X hI ((d1.go hp).tr hJ.1)
    refine ⟨nI 0, ir_sJ M1 436 0 v.toInt64, v, M2, ?_, gX.1, gX.2, e2, h4, fun _ => ?_, q_Iv_d hI d1 h0 hs hwf hJ d2 hK⟩
    · rw [hw M, e1]
      simp (disch := omega) only [q_ckt, q_lt, q_cI, q_cJ, q_cV, q_cP, q_xI, q_xV, q_xP, q_xJ, g_gk, g_ga, g_gw, g_gp, g_gq, g_P, g_J, q_I_s, q_I_n, q_I_k, nI_add, pk_sub, pk_mul, nI_clamp, n_lt0, n_0lt, n_eq0, n_lt, n_le, n_eq, n_m1, n_m2, n_m9, n_12, n_19, n_10, n_01, n_1n1, n_0n1, n_1n0, n_0n0, n_dI, n_m1lt, q_inb, n_nar, n_nar0, n_nar1, n_bool, Bool.false_eq_true, Bool.true_eq_false, if_true, if_false, ↓reduceIte, Nat.reduceAdd, Nat.reduceMul, Nat.reduceSub, Nat.reduceLT, Nat.reduceLeDiff, Nat.reduceEqDiff, Nat.reduceMod, Nat.reduceDiv, q_W hp, q_bI1, q_R hp1]
    · rw [d2.2.2]
      show (if 436 = 436 then vp_updL (M1.2.1 436) 0 v.toInt64 else M1.2.1 436) 0 = v.toInt64
      rw [if_pos rfl]
      exact pk_uLs
  · exact q_St_1 hw h' hI
theorem q_Sq_mk (h : ∀ M, q_PI M → c_I M → (∃ v K', d_c f M v K' ∧ k_wf K' ∧ d_r g (M.1 413) v K') ∨ (∃ v M1, f M = ir_oI v M1 ∧ q_st 0 M M1 ∧ ∃ M2, g M1 = ir_oI v M2 ∧ q_st 0 M1 M2)) : q_Sp L xs (q_Iv L xs) f g := by
  intro j M hI
  have hp := hI.1
  rcases h M hp hI.2.2.2.2 with ⟨v, K', ⟨M1, e1, d1, h0, hs⟩, hwf, hr⟩ | ⟨v, M1, e1, s1, M2, e2, s2⟩
  · have hp1 := d1.p hp
    have hk : ∀ k, ir_I M1 413 k = M.1 413 k := fun k => congrFun (d1.1 413 rfl) k
    obtain ⟨M2, e2, d2, hK, h4⟩ := hr M1 ⟨hp1, hI.2.2.2.2.1.1.1, hk⟩
    have gX := q_Iv_X hI (d1.go hp)
    exact ⟨v, M1, M2, e1, gX.1, gX.2, e2, q_Iv_d hI d1 h0 hs hwf (q_st.rf hp1) d2 hK⟩
  · exact ⟨v, M1, M2, e1, (q_Iv_X hI s1.1).1, (q_Iv_X hI s1.1).2, e2, q_Iv_st hI (s1.tr s2) (by omega)⟩
end SD
