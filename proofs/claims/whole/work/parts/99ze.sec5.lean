/-! secrets: what is sure (class); what is told; the reference -/
def k_oa (P : Nat → Bool) : Nat → Int32 × Nat
  | 0 => (-1, 0)
  | x + 1 => if (k_oa P x).2 < 2 then (if P x = true then (nI x + (-2), (k_oa P x).2 + 1) else k_oa P x) else k_oa P x
theorem k_oa_st {P : Nat → Bool} {x : Nat} (h : ¬ (k_oa P x).2 < 2) : ∀ r, k_oa P (x + r) = k_oa P x
  | 0 => rfl
  | r + 1 => by
    have ih := k_oa_st h r
    show (if (k_oa P (x + r)).2 < 2 then _ else k_oa P (x + r)) = _
    rw [ih, if_neg h]
theorem k_oa_le {P : Nat → Bool} : ∀ x, (k_oa P x).2 ≤ 2
  | 0 => by show 0 ≤ 2; omega
  | x + 1 => by
    have ih := k_oa_le (P := P) x
    unfold k_oa
    by_cases q : (k_oa P x).2 < 2
    · rw [if_pos q]
      by_cases q2 : P x = true
      · rw [if_pos q2]; show (k_oa P x).2 + 1 ≤ 2; omega
      · rw [if_neg q2]; exact ih
    · rw [if_neg q]; exact ih
def k_o2 (o : Nat → Nat) (p x : Nat) : Nat → Nat := fun i => if i = p then o p &&& 2 ^ x else o i
def k_W2 (K N : Nat → Int32) (o : Nat → Nat) (p x : Nat) : Nat := k_cnt (k_ok2 K N) (k_prd (k_os2 (k_o2 o p x) 0 (k_m K)))
theorem k_W2_lt {K N : Nat → Int32} (hk : k_ok K) {os : List Nat} (hl : os.length = k_m K) : k_cnt (k_ok2 K N) (k_prd os) < 2 ^ 30 := by
  have hb := k_bds hk
  have a := k_cnt_le (P := k_ok2 K N) (k_prd os)
  have b := k_prd_len os
  have c : 8 ^ os.length ≤ 8 ^ 8 := Nat.pow_le_pow_right (by decide) (by omega)
  have : 8 ^ 8 < 2 ^ 30 := by decide
  omega
theorem n_ofn {n : Nat} (h : n < 2 ^ 30) : (0 < lg_cmp (Int64.ofNat n) 0) = (0 < n) := by
  have e := k_c2 (Int64.ofNat n) 0
  rw [Int64.lt_iff_toInt_lt, Int64.toInt_ofNat_of_lt (by omega)] at e
  refine propext (e.trans ?_)
  rw [show (0 : Int64).toInt = 0 by decide +kernel]
  omega
section SU2
variable {K N : Nat → Int32} {M : ir_M} {d : Nat} {o : Nat → Nat}
theorem c_oa (h : c_sec2 K N M) (hl : c_l3 K M) (ho : ∀ i, i < k_m K → ir_I M 134 i = nI (o i) ∧ o i < 256) {p : Nat} (hp : p < k_m K) : ∃ M', m_X6_onlyAsked (d + 8) 133 (nI p) M = ir_oI (if (k_oa (fun x => decide (0 < k_W2 K N o p x)) 8).2 = 1 then (k_oa (fun x => decide (0 < k_W2 K N o p x)) 8).1 else -1) M' ∧ q_cs M M' := by
  have hk := h.1.2.2.1
  have hb := k_bds hk
  obtain ⟨P, eP⟩ : ∃ P : Nat → Bool, P = fun x => decide (0 < k_W2 K N o p x) := ⟨_, rfl⟩
  rw [← eP]
  have op := (ho p hp).2
  have key : ∀ (r x : Nat) (t : ir_M), x + r = 8 → q_cs M t → c_l3 K t → (∀ i, i < k_m K → i ≠ p → ir_I t 134 i = nI (o i)) → ∃ t', v_X6_onlyAsked_15 (d + 7) 133 (nI p) (nI (o p)) (k_oa P x).1 (nI (k_oa P x).2) (nI x) t = v_X6_onlyAsked_73 (d + 7) 133 (nI p) (nI (o p)) (k_oa P 8).1 (nI (k_oa P 8).2) t' ∧ q_cs M t' := by
    intro r
    induction r with
    | zero =>
      intro x t hx hc _ _
      have : x = 8 := by omega
      subst this
      refine ⟨t, ?_, hc⟩
      rw [L_X6_onlyAsked_15]
      simp (disch := omega) only [q_ckt, q_lt, q_cI, q_cJ, q_cV, q_cP, q_xI, q_xV, q_xP, q_xJ, g_gk, g_ga, g_gw, g_gp, g_gq, g_P, g_J, q_I_s, q_I_n, q_I_k, nI_add, pk_sub, pk_mul, nI_clamp, n_lt0, n_0lt, n_eq0, n_lt, n_le, n_eq, n_m1, n_m2, n_m9, n_12, n_19, n_10, n_01, n_1n1, n_0n1, n_1n0, n_0n0, n_dI, n_m1lt, q_inb, n_nar, n_nar0, n_nar1, n_bool, Bool.false_eq_true, Bool.true_eq_false, if_true, if_false, ↓reduceIte, Nat.reduceAdd, Nat.reduceMul, Nat.reduceSub, Nat.reduceLT, Nat.reduceLeDiff, Nat.reduceEqDiff, Nat.reduceMod, Nat.reduceDiv]
    | succ r ih =>
      intro x t hx hc hlt hot
      have le := k_oa_le (P := P) x
      by_cases q2 : (k_oa P x).2 < 2
      · have st := c_sec_cs h hc
        obtain ⟨t1, et1⟩ : ∃ N, N = ir_sI t 134 p (nI (o p &&& 2 ^ x)) := ⟨_, rfl⟩
        have q1 : q_eq [134] t t1 := by rw [et1]; exact q_eq.sI (by decide)
        have c1 := q_cs_eq st.1.1 q1 (by decide)
        have s1 := c_sec_cs st c1
        have l1 : c_l3 K t1 := fun a b c d e => by rw [q_I_eq q1 (by decide)]; exact hlt a b c d e
        have al : o p &&& 2 ^ x < 256 := Nat.lt_of_le_of_lt Nat.and_le_left op
        have o1 : ∀ i, i < k_m K → ir_I t1 134 i = nI (k_o2 o p x i) ∧ k_o2 o p x i < 256 := fun i hi => by
          unfold k_o2
          rw [et1, q_I_u]
          by_cases q : i = p
          · rw [if_pos q, if_pos q]; exact ⟨rfl, al⟩
          · rw [if_neg q, if_neg q]; exact ⟨hot i hi q, (ho i hi).2⟩
        have es : k_oa P (x + 1) = if P x = true then (nI x + (-2), (k_oa P x).2 + 1) else k_oa P x := by
          show (if (k_oa P x).2 < 2 then _ else _) = _
          rw [if_pos q2]
        by_cases q0 : o p &&& 2 ^ x = 0
        · have w0 : k_W2 K N o p x = 0 := k_prd_e (i := p) (by rw [k_os2_len]; exact hp) (by rw [k_os2_g _ _ _ hp, Nat.zero_add]; unfold k_o2; rw [if_pos rfl]; exact q0) _
          have px : P x = false := by
            rw [eP]
            show decide (0 < k_W2 K N o p x) = false
            rw [w0]; rfl
          rw [px, if_neg (by decide)] at es
          obtain ⟨t', e', c'⟩ := ih (x + 1) t1 (by omega) (hc.tr c1) l1 (fun i hi hne => by rw [et1, q_I_k hne]; exact hot i hi hne)
          refine ⟨t', ?_, c'⟩
          rw [← e', es, L_X6_onlyAsked_15]
          simp (disch := omega) only [q_ckt, q_lt, q_cI, q_cJ, q_cV, q_cP, q_xI, q_xV, q_xP, q_xJ, g_gk, g_ga, g_gw, g_gp, g_gq, g_P, g_J, q_I_s, q_I_n, q_I_k, nI_add, pk_sub, pk_mul, nI_clamp, n_lt0, n_0lt, n_eq0, n_lt, n_le, n_eq, n_m1, n_m2, n_m9, n_12, n_19, n_10, n_01, n_1n1, n_0n1, n_1n0, n_0n0, n_dI, n_m1lt, q_inb, n_nar, n_nar0, n_nar1, n_bool, Bool.false_eq_true, Bool.true_eq_false, if_true, if_false, ↓reduceIte, Nat.reduceAdd, Nat.reduceMul, Nat.reduceSub, Nat.reduceLT, Nat.reduceLeDiff, Nat.reduceEqDiff, Nat.reduceMod, Nat.reduceDiv, show x < 8 by omega, q2, q_E st.1.1, n_bit, n_and, q0]
          rw [et1, q0]
        · obtain ⟨t2, e2, c2, k2, l2⟩ := c_wy (d := d) s1 l1 o1
          have wl := k_W2_lt (K := K) (N := N) hk (os := k_os2 (k_o2 o p x) 0 (k_m K)) (k_os2_len _ _)
          have cmp := n_ofn wl
          obtain ⟨t', e', c'⟩ := ih (x + 1) t2 (by omega) ((hc.tr c1).tr c2) l2 (fun i hi hne => by
            show t2.1 134 i = _
            rw [k2]
            show ir_I t1 134 i = _
            rw [et1, q_I_k hne]; exact hot i hi hne)
          refine ⟨t', ?_, c'⟩
          rw [← e', es, L_X6_onlyAsked_15]
          by_cases qw : 0 < k_cnt (k_ok2 K N) (k_prd (k_os2 (k_o2 o p x) 0 (k_m K)))
          · have px : P x = true := by rw [eP]; exact decide_eq_true qw
            rw [px, if_pos rfl]
            simp (disch := omega) only [q_ckt, q_lt, q_cI, q_cJ, q_cV, q_cP, q_xI, q_xV, q_xP, q_xJ, g_gk, g_ga, g_gw, g_gp, g_gq, g_P, g_J, q_I_s, q_I_n, q_I_k, nI_add, pk_sub, pk_mul, nI_clamp, n_lt0, n_0lt, n_eq0, n_lt, n_le, n_eq, n_m1, n_m2, n_m9, n_12, n_19, n_10, n_01, n_1n1, n_0n1, n_1n0, n_0n0, n_dI, n_m1lt, q_inb, n_nar, n_nar0, n_nar1, n_bool, Bool.false_eq_true, Bool.true_eq_false, if_true, if_false, ↓reduceIte, Nat.reduceAdd, Nat.reduceMul, Nat.reduceSub, Nat.reduceLT, Nat.reduceLeDiff, Nat.reduceEqDiff, Nat.reduceMod, Nat.reduceDiv, show x < 8 by omega, q2, q_E st.1.1, n_bit, n_and, q0]
            rw [← et1]
            simp (disch := omega) only [q_ckt, q_lt, q_cI, q_cJ, q_cV, q_cP, q_xI, q_xV, q_xP, q_xJ, g_gk, g_ga, g_gw, g_gp, g_gq, g_P, g_J, q_I_s, q_I_n, q_I_k, nI_add, pk_sub, pk_mul, nI_clamp, n_lt0, n_0lt, n_eq0, n_lt, n_le, n_eq, n_m1, n_m2, n_m9, n_12, n_19, n_10, n_01, n_1n1, n_0n1, n_1n0, n_0n0, n_dI, n_m1lt, q_inb, n_nar, n_nar0, n_nar1, n_bool, Bool.false_eq_true, Bool.true_eq_false, if_true, if_false, ↓reduceIte, Nat.reduceAdd, Nat.reduceMul, Nat.reduceSub, Nat.reduceLT, Nat.reduceLeDiff, Nat.reduceEqDiff, Nat.reduceMod, Nat.reduceDiv, e2, cmp, qw]
          · have px : P x = false := by rw [eP]; exact decide_eq_false qw
            rw [px, if_neg (show ¬ (false = true) by decide)]
            simp (disch := omega) only [q_ckt, q_lt, q_cI, q_cJ, q_cV, q_cP, q_xI, q_xV, q_xP, q_xJ, g_gk, g_ga, g_gw, g_gp, g_gq, g_P, g_J, q_I_s, q_I_n, q_I_k, nI_add, pk_sub, pk_mul, nI_clamp, n_lt0, n_0lt, n_eq0, n_lt, n_le, n_eq, n_m1, n_m2, n_m9, n_12, n_19, n_10, n_01, n_1n1, n_0n1, n_1n0, n_0n0, n_dI, n_m1lt, q_inb, n_nar, n_nar0, n_nar1, n_bool, Bool.false_eq_true, Bool.true_eq_false, if_true, if_false, ↓reduceIte, Nat.reduceAdd, Nat.reduceMul, Nat.reduceSub, Nat.reduceLT, Nat.reduceLeDiff, Nat.reduceEqDiff, Nat.reduceMod, Nat.reduceDiv, show x < 8 by omega, q2, q_E st.1.1, n_bit, n_and, q0]
            rw [← et1]
            simp (disch := omega) only [q_ckt, q_lt, q_cI, q_cJ, q_cV, q_cP, q_xI, q_xV, q_xP, q_xJ, g_gk, g_ga, g_gw, g_gp, g_gq, g_P, g_J, q_I_s, q_I_n, q_I_k, nI_add, pk_sub, pk_mul, nI_clamp, n_lt0, n_0lt, n_eq0, n_lt, n_le, n_eq, n_m1, n_m2, n_m9, n_12, n_19, n_10, n_01, n_1n1, n_0n1, n_1n0, n_0n0, n_dI, n_m1lt, q_inb, n_nar, n_nar0, n_nar1, n_bool, Bool.false_eq_true, Bool.true_eq_false, if_true, if_false, ↓reduceIte, Nat.reduceAdd, Nat.reduceMul, Nat.reduceSub, Nat.reduceLT, Nat.reduceLeDiff, Nat.reduceEqDiff, Nat.reduceMod, Nat.reduceDiv, e2, cmp, qw]
      · have e8 := k_oa_st (P := P) q2 (r + 1)
        rw [hx] at e8
        refine ⟨t, ?_, hc⟩
        rw [e8, L_X6_onlyAsked_15]
        simp (disch := omega) only [q_ckt, q_lt, q_cI, q_cJ, q_cV, q_cP, q_xI, q_xV, q_xP, q_xJ, g_gk, g_ga, g_gw, g_gp, g_gq, g_P, g_J, q_I_s, q_I_n, q_I_k, nI_add, pk_sub, pk_mul, nI_clamp, n_lt0, n_0lt, n_eq0, n_lt, n_le, n_eq, n_m1, n_m2, n_m9, n_12, n_19, n_10, n_01, n_1n1, n_0n1, n_1n0, n_0n0, n_dI, n_m1lt, q_inb, n_nar, n_nar0, n_nar1, n_bool, Bool.false_eq_true, Bool.true_eq_false, if_true, if_false, ↓reduceIte, Nat.reduceAdd, Nat.reduceMul, Nat.reduceSub, Nat.reduceLT, Nat.reduceLeDiff, Nat.reduceEqDiff, Nat.reduceMod, Nat.reduceDiv, show x < 8 by omega, q2]
  obtain ⟨t, ee, ct⟩ := key 8 0 M (by omega) (q_cs.rf h.1.1) hl (fun i hi _ => (ho i hi).1)
  have st := c_sec_cs h ct
  have le := k_oa_le (P := P) 8
  refine ⟨ir_sI t 134 p (nI (o p)), ?_, ct.tr (q_cs_eq st.1.1 (S := [134]) (q_eq.sI (by decide)) (by decide))⟩
  rw [E_X6_onlyAsked]
  simp (disch := omega) only [q_ckt, q_lt, q_cI, q_cJ, q_cV, q_cP, q_xI, q_xV, q_xP, q_xJ, g_gk, g_ga, g_gw, g_gp, g_gq, g_P, g_J, q_I_s, q_I_n, q_I_k, nI_add, pk_sub, pk_mul, nI_clamp, n_lt0, n_0lt, n_eq0, n_lt, n_le, n_eq, n_m1, n_m2, n_m9, n_12, n_19, n_10, n_01, n_1n1, n_0n1, n_1n0, n_0n0, n_dI, n_m1lt, q_inb, n_nar, n_nar0, n_nar1, n_bool, Bool.false_eq_true, Bool.true_eq_false, if_true, if_false, ↓reduceIte, Nat.reduceAdd, Nat.reduceMul, Nat.reduceSub, Nat.reduceLT, Nat.reduceLeDiff, Nat.reduceEqDiff, Nat.reduceMod, Nat.reduceDiv, q_E h.1.1, (ho p hp).1]
  refine ee.trans ?_
  rw [L_X6_onlyAsked_73]
  by_cases q : (k_oa P 8).2 = 1
  · simp (disch := omega) only [q_ckt, q_lt, q_cI, q_cJ, q_cV, q_cP, q_xI, q_xV, q_xP, q_xJ, g_gk, g_ga, g_gw, g_gp, g_gq, g_P, g_J, q_I_s, q_I_n, q_I_k, nI_add, pk_sub, pk_mul, nI_clamp, n_lt0, n_0lt, n_eq0, n_lt, n_le, n_eq, n_m1, n_m2, n_m9, n_12, n_19, n_10, n_01, n_1n1, n_0n1, n_1n0, n_0n0, n_dI, n_m1lt, q_inb, n_nar, n_nar0, n_nar1, n_bool, Bool.false_eq_true, Bool.true_eq_false, if_true, if_false, ↓reduceIte, Nat.reduceAdd, Nat.reduceMul, Nat.reduceSub, Nat.reduceLT, Nat.reduceLeDiff, Nat.reduceEqDiff, Nat.reduceMod, Nat.reduceDiv, q_E st.1.1, q]
  · simp (disch := omega) only [q_ckt, q_lt, q_cI, q_cJ, q_cV, q_cP, q_xI, q_xV, q_xP, q_xJ, g_gk, g_ga, g_gw, g_gp, g_gq, g_P, g_J, q_I_s, q_I_n, q_I_k, nI_add, pk_sub, pk_mul, nI_clamp, n_lt0, n_0lt, n_eq0, n_lt, n_le, n_eq, n_m1, n_m2, n_m9, n_12, n_19, n_10, n_01, n_1n1, n_0n1, n_1n0, n_0n0, n_dI, n_m1lt, q_inb, n_nar, n_nar0, n_nar1, n_bool, Bool.false_eq_true, Bool.true_eq_false, if_true, if_false, ↓reduceIte, Nat.reduceAdd, Nat.reduceMul, Nat.reduceSub, Nat.reduceLT, Nat.reduceLeDiff, Nat.reduceEqDiff, Nat.reduceMod, Nat.reduceDiv, q_E st.1.1, q]
end SU2
/-! is it told rightly -/
def k_tb (K : Nat → Int32) (T : Nat → Int64) (k : Nat) : Bool := decide (-2 ≤ (T k).toInt ∧ (T k).toInt < (k_g K : Int))
def k_ft2 (K : Nat → Int32) (T : Nat → Int64) (mn : Nat) : Bool := decide (mn = k_m K) && (k_f1 (fun k => !(k_tb K T k)) mn 0).isNone
theorem k_f1_n {P : Nat → Bool} : ∀ (r x : Nat), (k_f1 P r x).isNone = true ↔ ∀ i, x ≤ i → i < x + r → P i = false := fun r x => by
  constructor
  · intro h i h1 h2
    exact k_f1_none (Option.isNone_iff_eq_none.mp h) i h1 h2
  · intro h
    cases e : k_f1 P r x with
    | none => rfl
    | some g =>
      obtain ⟨a, b, c, -⟩ := k_f1_some e
      rw [h g b c] at a
      exact nomatch a
theorem j_m2 : (-2 : Int64).toInt = -2 := by decide +kernel
section TD
variable {K : Nat → Int32} {M : ir_M} {d t mn : Nat} {T : Nat → Int64}
theorem c_ntd (h : c_rl M 12 K) (ht : c_tt M t mn T) : m_X11_needTold (d + 2) 1 (404 + 2 * t) M = if k_ft2 K T mn = true then ir_oV M else ir_oX 3 (ir_th M) := by
  have hk := h.2.2.1
  have hb := k_bds hk
  have h30 := ht.2.1
  have Y := q_Yt h.1 ht.1
  have L := q_up (σ := Bool) (V := fun x b => v_X11_needTold_22 (d + 1) 1 (404 + 2 * t) (if b = true then nI 1 else nI 0) (nI x) M) (N := mn) (I := fun x b => b = (decide (mn = k_m K) && (k_f1 (fun k => !(k_tb K T k)) x 0).isNone)) (K := fun b => if b = true then ir_oV M else ir_oX 3 (ir_th M)) (by
    rintro x b hx rfl
    refine ⟨_, rfl, ?_⟩
    have na := c_na (d := d) (i := t) (mn := mn) (k := x) h.1 ht.1 ht.2.2.2.1 ht.2.1 hx
    rw [ht.2.2.2.2 x hx] at na
    have c1 : (lg_cmp (T x) (-2 : Int64) < 0) = ((T x).toInt < -2) := propext ((k_c1 _ _).trans (Int64.lt_iff_toInt_lt.trans (by rw [j_m2])))
    have c2 : (lg_cmp (T x) (nI (k_g K)).toInt64 < 0) = ((T x).toInt < (k_g K : Int)) := propext ((k_c1 _ _).trans (Int64.lt_iff_toInt_lt.trans (by rw [Int32.toInt_toInt64, nI_toInt (by omega)])))
    have sp : (k_f1 (fun k => !(k_tb K T k)) (x + 1) 0).isNone = ((k_f1 (fun k => !(k_tb K T k)) x 0).isNone && k_tb K T x) := by
      have a := k_f1_n (P := fun k => !(k_tb K T k)) (x + 1) 0
      have b := k_f1_n (P := fun k => !(k_tb K T k)) x 0
      cases e1 : (k_f1 (fun k => !(k_tb K T k)) x 0).isNone
      · rw [Bool.false_and]
        cases e2 : (k_f1 (fun k => !(k_tb K T k)) (x + 1) 0).isNone
        · rfl
        · rw [b.mpr (fun i h1 h2 => a.mp e2 i h1 (by omega))] at e1
          exact nomatch e1
      · rw [Bool.true_and]
        cases e3 : k_tb K T x
        · cases e2 : (k_f1 (fun k => !(k_tb K T k)) (x + 1) 0).isNone
          · rfl
          · have := a.mp e2 x (by omega) (by omega)
            rw [e3] at this
            exact nomatch this
        · refine a.mpr (fun i h1 h2 => ?_)
          by_cases q : i = x
          · rw [q, e3]; rfl
          · exact b.mp e1 i h1 (by omega)
    rw [sp, L_X11_needTold_22]
    unfold k_tb
    by_cases q1 : (T x).toInt < -2
    · rw [decide_eq_false (show ¬ (-2 ≤ (T x).toInt ∧ (T x).toInt < (k_g K : Int)) by omega), Bool.and_false, Bool.and_false]
      simp (disch := omega) only [q_ckt, q_lt, q_cI, q_cJ, q_cV, q_cP, q_xI, q_xV, q_xP, q_xJ, g_gk, g_ga, g_gw, g_gp, g_gq, g_P, g_J, q_I_s, q_I_n, q_I_k, nI_add, pk_sub, pk_mul, nI_clamp, n_lt0, n_0lt, n_eq0, n_lt, n_le, n_eq, n_m1, n_m2, n_m9, n_12, n_19, n_10, n_01, n_1n1, n_0n1, n_1n0, n_0n0, n_dI, n_m1lt, q_inb, n_nar, n_nar0, n_nar1, n_bool, Bool.false_eq_true, Bool.true_eq_false, if_true, if_false, ↓reduceIte, Nat.reduceAdd, Nat.reduceMul, Nat.reduceSub, Nat.reduceLT, Nat.reduceLeDiff, Nat.reduceEqDiff, Nat.reduceMod, Nat.reduceDiv, Y, ht.2.2.2.1, hx, na, c1, q1]
    · by_cases q2 : (T x).toInt < (k_g K : Int)
      · rw [decide_eq_true (show -2 ≤ (T x).toInt ∧ (T x).toInt < (k_g K : Int) by omega), Bool.and_true]
        simp (disch := omega) only [q_ckt, q_lt, q_cI, q_cJ, q_cV, q_cP, q_xI, q_xV, q_xP, q_xJ, g_gk, g_ga, g_gw, g_gp, g_gq, g_P, g_J, q_I_s, q_I_n, q_I_k, nI_add, pk_sub, pk_mul, nI_clamp, n_lt0, n_0lt, n_eq0, n_lt, n_le, n_eq, n_m1, n_m2, n_m9, n_12, n_19, n_10, n_01, n_1n1, n_0n1, n_1n0, n_0n0, n_dI, n_m1lt, q_inb, n_nar, n_nar0, n_nar1, n_bool, Bool.false_eq_true, Bool.true_eq_false, if_true, if_false, ↓reduceIte, Nat.reduceAdd, Nat.reduceMul, Nat.reduceSub, Nat.reduceLT, Nat.reduceLeDiff, Nat.reduceEqDiff, Nat.reduceMod, Nat.reduceDiv, Y, ht.2.2.2.1, hx, na, c1, q1, q_W h.1, q_T h.1, c_use h, c2, q2]
      · rw [decide_eq_false (show ¬ (-2 ≤ (T x).toInt ∧ (T x).toInt < (k_g K : Int)) by omega), Bool.and_false, Bool.and_false]
        simp (disch := omega) only [q_ckt, q_lt, q_cI, q_cJ, q_cV, q_cP, q_xI, q_xV, q_xP, q_xJ, g_gk, g_ga, g_gw, g_gp, g_gq, g_P, g_J, q_I_s, q_I_n, q_I_k, nI_add, pk_sub, pk_mul, nI_clamp, n_lt0, n_0lt, n_eq0, n_lt, n_le, n_eq, n_m1, n_m2, n_m9, n_12, n_19, n_10, n_01, n_1n1, n_0n1, n_1n0, n_0n0, n_dI, n_m1lt, q_inb, n_nar, n_nar0, n_nar1, n_bool, Bool.false_eq_true, Bool.true_eq_false, if_true, if_false, ↓reduceIte, Nat.reduceAdd, Nat.reduceMul, Nat.reduceSub, Nat.reduceLT, Nat.reduceLeDiff, Nat.reduceEqDiff, Nat.reduceMod, Nat.reduceDiv, Y, ht.2.2.2.1, hx, na, c1, q1, q_W h.1, q_T h.1, c_use h, c2, q2]) (by
    rintro b rfl
    rw [L_X11_needTold_22]
    cases (decide (mn = k_m K) && (k_f1 (fun k => !(k_tb K T k)) mn 0).isNone)
    · simp (disch := omega) only [q_ckt, q_lt, q_cI, q_cJ, q_cV, q_cP, q_xI, q_xV, q_xP, q_xJ, g_gk, g_ga, g_gw, g_gp, g_gq, g_P, g_J, q_I_s, q_I_n, q_I_k, nI_add, pk_sub, pk_mul, nI_clamp, n_lt0, n_0lt, n_eq0, n_lt, n_le, n_eq, n_m1, n_m2, n_m9, n_12, n_19, n_10, n_01, n_1n1, n_0n1, n_1n0, n_0n0, n_dI, n_m1lt, q_inb, n_nar, n_nar0, n_nar1, n_bool, Bool.false_eq_true, Bool.true_eq_false, if_true, if_false, ↓reduceIte, Nat.reduceAdd, Nat.reduceMul, Nat.reduceSub, Nat.reduceLT, Nat.reduceLeDiff, Nat.reduceEqDiff, Nat.reduceMod, Nat.reduceDiv, Y, ht.2.2.2.1, Nat.lt_irrefl]
    · simp (disch := omega) only [q_ckt, q_lt, q_cI, q_cJ, q_cV, q_cP, q_xI, q_xV, q_xP, q_xJ, g_gk, g_ga, g_gw, g_gp, g_gq, g_P, g_J, q_I_s, q_I_n, q_I_k, nI_add, pk_sub, pk_mul, nI_clamp, n_lt0, n_0lt, n_eq0, n_lt, n_le, n_eq, n_m1, n_m2, n_m9, n_12, n_19, n_10, n_01, n_1n1, n_0n1, n_1n0, n_0n0, n_dI, n_m1lt, q_inb, n_nar, n_nar0, n_nar1, n_bool, Bool.false_eq_true, Bool.true_eq_false, if_true, if_false, ↓reduceIte, Nat.reduceAdd, Nat.reduceMul, Nat.reduceSub, Nat.reduceLT, Nat.reduceLeDiff, Nat.reduceEqDiff, Nat.reduceMod, Nat.reduceDiv, Y, ht.2.2.2.1, Nat.lt_irrefl]) (i := 0) (t := decide (mn = k_m K)) (by omega) (by
      show _ = (decide (mn = k_m K) && true)
      rw [Bool.and_true])
  obtain ⟨b, rfl, ee⟩ := L
  rw [show k_ft2 K T mn = (decide (mn = k_m K) && (k_f1 (fun k => !(k_tb K T k)) mn 0).isNone) from rfl, ← ee, E_X11_needTold]
  by_cases q : mn = k_m K
  · rw [decide_eq_true q, if_pos rfl]
    simp (disch := omega) only [q_ckt, q_lt, q_cI, q_cJ, q_cV, q_cP, q_xI, q_xV, q_xP, q_xJ, g_gk, g_ga, g_gw, g_gp, g_gq, g_P, g_J, q_I_s, q_I_n, q_I_k, nI_add, pk_sub, pk_mul, nI_clamp, n_lt0, n_0lt, n_eq0, n_lt, n_le, n_eq, n_m1, n_m2, n_m9, n_12, n_19, n_10, n_01, n_1n1, n_0n1, n_1n0, n_0n0, n_dI, n_m1lt, q_inb, n_nar, n_nar0, n_nar1, n_bool, Bool.false_eq_true, Bool.true_eq_false, if_true, if_false, ↓reduceIte, Nat.reduceAdd, Nat.reduceMul, Nat.reduceSub, Nat.reduceLT, Nat.reduceLeDiff, Nat.reduceEqDiff, Nat.reduceMod, Nat.reduceDiv, Y, ht.2.2.2.1, q_W h.1, q_S h.1 (a := 12) (by decide), c_use h, q]
  · rw [decide_eq_false q, if_neg (show ¬ (false = true) by decide)]
    simp (disch := omega) only [q_ckt, q_lt, q_cI, q_cJ, q_cV, q_cP, q_xI, q_xV, q_xP, q_xJ, g_gk, g_ga, g_gw, g_gp, g_gq, g_P, g_J, q_I_s, q_I_n, q_I_k, nI_add, pk_sub, pk_mul, nI_clamp, n_lt0, n_0lt, n_eq0, n_lt, n_le, n_eq, n_m1, n_m2, n_m9, n_12, n_19, n_10, n_01, n_1n1, n_0n1, n_1n0, n_0n0, n_dI, n_m1lt, q_inb, n_nar, n_nar0, n_nar1, n_bool, Bool.false_eq_true, Bool.true_eq_false, if_true, if_false, ↓reduceIte, Nat.reduceAdd, Nat.reduceMul, Nat.reduceSub, Nat.reduceLT, Nat.reduceLeDiff, Nat.reduceEqDiff, Nat.reduceMod, Nat.reduceDiv, Y, ht.2.2.2.1, q_W h.1, q_S h.1 (a := 12) (by decide), c_use h, q]
theorem r_scf {so : Nat} (h : r_rl M K) (ht : r_tt M t mn T) (hs : so < 4) (h3 : ir_I M 433 t = nI so) : m_X12_secretFault (d + 4) 412 (nI t) M = ir_oI (if k_ft2 K T mn = true then nI 0 else nI 3) M := by
  have hk := h.2.1
  have hb := k_bds hk
  have h30 := ht.2.1
  have ht4 := ht.1
  have tf := r_tf2 (d := d) h.1 ht.1 hs h3
  have key : ∀ (r x : Nat), x + r = mn → v_X12_secretFault_29 (d + 3) 412 (nI t) (nI x) M = ir_oI (if (k_f1 (fun k => !(k_tb K T k)) r x).isNone = true then nI 0 else nI 3) M := by
    intro r
    induction r with
    | zero =>
      intro x hx
      rw [L_X12_secretFault_29]
      simp (disch := omega) only [q_ckt, q_lt, q_cI, q_cJ, q_cV, q_cP, q_xI, q_xV, q_xP, q_xJ, g_gk, g_ga, g_gw, g_gp, g_gq, g_P, g_J, q_I_s, q_I_n, q_I_k, nI_add, pk_sub, pk_mul, nI_clamp, n_lt0, n_0lt, n_eq0, n_lt, n_le, n_eq, n_m1, n_m2, n_m9, n_12, n_19, n_10, n_01, n_1n1, n_0n1, n_1n0, n_0n0, n_dI, n_m1lt, q_inb, n_nar, n_nar0, n_nar1, n_bool, Bool.false_eq_true, Bool.true_eq_false, if_true, if_false, ↓reduceIte, Nat.reduceAdd, Nat.reduceMul, Nat.reduceSub, Nat.reduceLT, Nat.reduceLeDiff, Nat.reduceEqDiff, Nat.reduceMod, Nat.reduceDiv, q_R h.1, ht.2.2.1, show ¬ x < mn by omega, k_f1, Option.isNone_none]
    | succ r ih =>
      intro x hx
      have i1 := ih (x + 1) (by omega)
      have jx := ht.2.2.2 x (by omega)
      have go := r_go (d := d + 2) h
      have w : ((-2 : Int64).toInt ≤ (T x).toInt ∧ (T x).toInt ≤ ((nI (k_g K) - nI 1).toInt64).toInt) = (k_tb K T x = true) := by
        rw [k_lim (by omega), j_m2]
        unfold k_tb
        rw [decide_eq_true_iff]
        exact propext ⟨fun q => ⟨q.1, by omega⟩, fun q => ⟨q.1, by omega⟩⟩
      have wi := r_within (M := M) (d := d + 2) (a := T x) (b := -2) (c := (nI (k_g K) - nI 1).toInt64)
      rw [L_X12_secretFault_29]
      unfold k_f1
      by_cases q : k_tb K T x = true
      · rw [if_pos (by rw [w]; exact q)] at wi
        simp (disch := omega) only [q_ckt, q_lt, q_cI, q_cJ, q_cV, q_cP, q_xI, q_xV, q_xP, q_xJ, g_gk, g_ga, g_gw, g_gp, g_gq, g_P, g_J, q_I_s, q_I_n, q_I_k, nI_add, pk_sub, pk_mul, nI_clamp, n_lt0, n_0lt, n_eq0, n_lt, n_le, n_eq, n_m1, n_m2, n_m9, n_12, n_19, n_10, n_01, n_1n1, n_0n1, n_1n0, n_0n0, n_dI, n_m1lt, q_inb, n_nar, n_nar0, n_nar1, n_bool, Bool.false_eq_true, Bool.true_eq_false, if_true, if_false, ↓reduceIte, Nat.reduceAdd, Nat.reduceMul, Nat.reduceSub, Nat.reduceLT, Nat.reduceLeDiff, Nat.reduceEqDiff, Nat.reduceMod, Nat.reduceDiv, q_R h.1, ht.2.2.1, show x < mn by omega, jx, go]
        have gs : ∀ X : ir_R, ir_cI (m_X12_within (d + 3) (T x) (-2) (nI (k_g K) - nI 1).toInt64 M) (fun r4 M3 => if r4 = 0 then ir_oI (nI 3) M3 else v_X12_secretFault_29 (d + 3) 412 (nI t) (nI (x + 1)) M3) = X → X = v_X12_secretFault_29 (d + 3) 412 (nI t) (nI (x + 1)) M := fun X hX => by
          rw [← hX, wi]
          simp (disch := omega) only [q_ckt, q_lt, q_cI, q_cJ, q_cV, q_cP, q_xI, q_xV, q_xP, q_xJ, g_gk, g_ga, g_gw, g_gp, g_gq, g_P, g_J, q_I_s, q_I_n, q_I_k, nI_add, pk_sub, pk_mul, nI_clamp, n_lt0, n_0lt, n_eq0, n_lt, n_le, n_eq, n_m1, n_m2, n_m9, n_12, n_19, n_10, n_01, n_1n1, n_0n1, n_1n0, n_0n0, n_dI, n_m1lt, q_inb, n_nar, n_nar0, n_nar1, n_bool, Bool.false_eq_true, Bool.true_eq_false, if_true, if_false, ↓reduceIte, Nat.reduceAdd, Nat.reduceMul, Nat.reduceSub, Nat.reduceLT, Nat.reduceLeDiff, Nat.reduceEqDiff, Nat.reduceMod, Nat.reduceDiv]
        refine (gs _ rfl).trans ?_
        rw [i1, q, Bool.not_true]
        rfl
      · rw [if_neg (by rw [w]; exact q)] at wi
        simp (disch := omega) only [q_ckt, q_lt, q_cI, q_cJ, q_cV, q_cP, q_xI, q_xV, q_xP, q_xJ, g_gk, g_ga, g_gw, g_gp, g_gq, g_P, g_J, q_I_s, q_I_n, q_I_k, nI_add, pk_sub, pk_mul, nI_clamp, n_lt0, n_0lt, n_eq0, n_lt, n_le, n_eq, n_m1, n_m2, n_m9, n_12, n_19, n_10, n_01, n_1n1, n_0n1, n_1n0, n_0n0, n_dI, n_m1lt, q_inb, n_nar, n_nar0, n_nar1, n_bool, Bool.false_eq_true, Bool.true_eq_false, if_true, if_false, ↓reduceIte, Nat.reduceAdd, Nat.reduceMul, Nat.reduceSub, Nat.reduceLT, Nat.reduceLeDiff, Nat.reduceEqDiff, Nat.reduceMod, Nat.reduceDiv, q_R h.1, ht.2.2.1, show x < mn by omega, jx, go]
        rw [Bool.eq_false_iff.mpr q, Bool.not_false]
        show ir_cI (m_X12_within (d + 3) (T x) (-2) (nI (k_g K) - nI 1).toInt64 M) _ = ir_oI (nI 3) M
        rw [wi]
        simp (disch := omega) only [q_ckt, q_lt, q_cI, q_cJ, q_cV, q_cP, q_xI, q_xV, q_xP, q_xJ, g_gk, g_ga, g_gw, g_gp, g_gq, g_P, g_J, q_I_s, q_I_n, q_I_k, nI_add, pk_sub, pk_mul, nI_clamp, n_lt0, n_0lt, n_eq0, n_lt, n_le, n_eq, n_m1, n_m2, n_m9, n_12, n_19, n_10, n_01, n_1n1, n_0n1, n_1n0, n_0n0, n_dI, n_m1lt, q_inb, n_nar, n_nar0, n_nar1, n_bool, Bool.false_eq_true, Bool.true_eq_false, if_true, if_false, ↓reduceIte, Nat.reduceAdd, Nat.reduceMul, Nat.reduceSub, Nat.reduceLT, Nat.reduceLeDiff, Nat.reduceEqDiff, Nat.reduceMod, Nat.reduceDiv]
  rw [E_X12_secretFault]
  unfold k_ft2
  by_cases q : mn = k_m K
  · rw [decide_eq_true q, Bool.true_and]
    simp (disch := omega) only [q_ckt, q_lt, q_cI, q_cJ, q_cV, q_cP, q_xI, q_xV, q_xP, q_xJ, g_gk, g_ga, g_gw, g_gp, g_gq, g_P, g_J, q_I_s, q_I_n, q_I_k, nI_add, pk_sub, pk_mul, nI_clamp, n_lt0, n_0lt, n_eq0, n_lt, n_le, n_eq, n_m1, n_m2, n_m9, n_12, n_19, n_10, n_01, n_1n1, n_0n1, n_1n0, n_0n0, n_dI, n_m1lt, q_inb, n_nar, n_nar0, n_nar1, n_bool, Bool.false_eq_true, Bool.true_eq_false, if_true, if_false, ↓reduceIte, Nat.reduceAdd, Nat.reduceMul, Nat.reduceSub, Nat.reduceLT, Nat.reduceLeDiff, Nat.reduceEqDiff, Nat.reduceMod, Nat.reduceDiv, q_R h.1, tf, ht.2.2.1, r_qd h, q]
    rw [← q]
    exact key mn 0 (by omega)
  · rw [decide_eq_false q, Bool.false_and]
    simp (disch := omega) only [q_ckt, q_lt, q_cI, q_cJ, q_cV, q_cP, q_xI, q_xV, q_xP, q_xJ, g_gk, g_ga, g_gw, g_gp, g_gq, g_P, g_J, q_I_s, q_I_n, q_I_k, nI_add, pk_sub, pk_mul, nI_clamp, n_lt0, n_0lt, n_eq0, n_lt, n_le, n_eq, n_m1, n_m2, n_m9, n_12, n_19, n_10, n_01, n_1n1, n_0n1, n_1n0, n_0n0, n_dI, n_m1lt, q_inb, n_nar, n_nar0, n_nar1, n_bool, Bool.false_eq_true, Bool.true_eq_false, if_true, if_false, ↓reduceIte, Nat.reduceAdd, Nat.reduceMul, Nat.reduceSub, Nat.reduceLT, Nat.reduceLeDiff, Nat.reduceEqDiff, Nat.reduceMod, Nat.reduceDiv, q_R h.1, tf, ht.2.2.1, r_qd h, q]
theorem k_tb_T (hk : k_ok K) {k : Nat} (h : k_tb K T k = true) : T k = ((T k).toInt32).toInt64 := by
  have hb := k_bds hk
  unfold k_tb at h
  have h' := of_decide_eq_true h
  have : (T k).toInt = -2 ∨ (T k).toInt = -1 ∨ (T k).toInt = 0 ∨ (T k).toInt = 1 ∨ (T k).toInt = 2 ∨ (T k).toInt = 3 ∨ (T k).toInt = 4 ∨ (T k).toInt = 5 := by omega
  have mk : ∀ v : Int64, (T k).toInt = v.toInt → v = (v.toInt32).toInt64 → T k = ((T k).toInt32).toInt64 := fun v h1 h2 => by
    rw [Int64.toInt_inj.mp h1]; exact h2
  rcases this with e | e | e | e | e | e | e | e
  · exact mk (-2) (e.trans (by decide +kernel)) (by decide +kernel)
  · exact mk (-1) (e.trans (by decide +kernel)) (by decide +kernel)
  · exact mk 0 (e.trans (by decide +kernel)) (by decide +kernel)
  · exact mk 1 (e.trans (by decide +kernel)) (by decide +kernel)
  · exact mk 2 (e.trans (by decide +kernel)) (by decide +kernel)
  · exact mk 3 (e.trans (by decide +kernel)) (by decide +kernel)
  · exact mk 4 (e.trans (by decide +kernel)) (by decide +kernel)
  · exact mk 5 (e.trans (by decide +kernel)) (by decide +kernel)
end TD
