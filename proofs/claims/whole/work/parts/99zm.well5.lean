/-! THE WELL: the reference's words, signs and numbers -/
def k_rs (j : Nat) : Nat := [33, 34, 37, 39, 40, 41, 42, 43, 44, 45, 46, 47, 53, 54, 48, 38, 35, 36, 49, 50, 51, 52].getD j 0
theorem n_rs : ∀ j, j < 22 → k_rs j < 55 ∧ (ir_byt (k_rs j)).length = (k_wl.getD j []).length ∧ ∀ k, k < (k_wl.getD j []).length → (ir_byt (k_rs j)).getD k 0 = nI ((k_wl.getD j []).getD k 0) ∧ (k_wl.getD j []).getD k 0 < 128 := by decide +kernel
abbrev k_kd (B : Nat → Nat) (n s : Nat) : Nat := (k_t3 B n s).1
abbrev k_en (B : Nat → Nat) (n s : Nat) : Nat := (k_t3 B n s).2.1
abbrev k_vl (B : Nat → Nat) (n s : Nat) : Nat := (k_t3 B n s).2.2
abbrev k_nt (B : Nat → Nat) (n s : Nat) : Nat := k_ts B n (k_en B n s)
theorem k_rt_i (kd : Nat) : (k_rt kd = 0 ↔ kd = 0) ∧ (k_rt kd = 1 ↔ kd = 3 ∨ 256 ≤ kd) ∧ (k_rt kd = 2 ↔ kd = 2) ∧ (k_rt kd = 3 ↔ kd = 1) ∧ k_rt kd ≤ max kd 3 ∧ ∀ c, 4 ≤ c → c < 256 → (k_rt kd = c ↔ kd = c) := by
  unfold k_rt
  refine ⟨?_, ?_, ?_, ?_, ?_, fun c h1 h2 => ?_⟩ <;> (repeat' split) <;> omega
theorem k_kw {B : Nat → Nat} {n s : Nat} (h : k_rt (k_kd B n s) = 1) : k_kd B n s = k_wc (k_tx B s (k_en B n s)) ∧ s < n := by
  have h1 := (k_rt_i _).2.1.mp h
  unfold k_kd k_en at *
  unfold k_t3 at h1 ⊢
  by_cases q : n ≤ s
  · rw [if_pos q] at h1; dsimp only at h1; omega
  · rw [if_neg q] at h1 ⊢
    by_cases qd : k_dg (B s) = true
    · rw [if_pos qd] at h1
      dsimp only at h1
      split at h1 <;> omega
    · rw [if_neg qd] at h1 ⊢
      by_cases ql : k_ltr (B s) = true
      · rw [if_pos ql]
        exact ⟨rfl, by omega⟩
      · rw [if_neg ql] at h1
        dsimp only at h1
        split at h1
        · next z =>
          have := of_decide_eq_true z
          omega
        · omega
theorem k_nt_b {B : Nat → Nat} {n s : Nat} (hs : s ≤ n) : s ≤ k_nt B n s ∧ k_nt B n s ≤ n ∧ (k_kd B n s ≠ 0 → s + 1 ≤ k_nt B n s) ∧ (k_kd B n s = 0 ↔ n ≤ s) ∧ k_kd B n s < 300 ∧ (k_kd B n s = 2 → k_vl B n s < 1000) ∧ k_en B n s ≤ n ∧ s ≤ k_en B n s := by
  obtain ⟨b1, b2, b3, b4, b5, b6⟩ := k_t3_b (B := B) hs
  have sr := k_sk_r (B := B) (n - k_en B n s) (k_en B n s)
  have e : k_nt B n s = k_sk B (n - k_en B n s) (k_en B n s) := rfl
  have b2' : k_en B n s ≤ n := b2
  have b1' : s ≤ k_en B n s := b1
  refine ⟨by omega, by omega, fun w => ?_, b4, b5, b6, b2, b1⟩
  have b3' : s + 1 ≤ k_en B n s := b3 w
  omega
/-- fields that the reading leaves -/
def r_kp (M0 M : ir_M) : Prop := ∀ k, k = 4 ∨ k = 6 ∨ k = 7 ∨ k = 14 ∨ k = 15 → ir_I M 412 k = ir_I M0 412 k
/-- the reference at a token -/
def r_T (B : Nat → Nat) (n L : Nat) (xs : Nat → Int32) (M0 : ir_M) (dp s : Nat) (M : ir_M) : Prop := r_tx B n L xs M ∧ q_eq [412, 414] M0 M ∧ r_kp M0 M ∧ s ≤ n ∧ ir_I M 412 12 = 0 ∧ ir_I M 412 8 = nI (k_en B n s) ∧ ir_I M 412 9 = nI s ∧ ir_I M 412 10 = nI (k_rt (k_kd B n s)) ∧ (k_kd B n s = 2 → ir_I M 412 11 = nI (k_vl B n s)) ∧ ir_I M 412 16 = nI dp
/-- the reference at a fault -/
def r_F (B : Nat → Nat) (n L : Nat) (xs : Nat → Int32) (M0 : ir_M) (f p : Nat) (M : ir_M) : Prop := r_tx B n L xs M ∧ q_eq [412, 414] M0 M ∧ r_kp M0 M ∧ (ir_I M 412 12 = nI f ∧ f ≠ 0 ∧ f ≤ 4) ∧ ir_I M 412 13 = nI p ∧ ∃ g : Nat, g ≤ 6 ∧ ir_I M 414 1 = nI g
def k_fk (kd w : Nat) : Nat := if kd = 1 then 1 else w
theorem n_fz {f : Nat} (h : f ≠ 0) (h4 : f ≤ 4) : ¬ nI f = 0 := fun q => h ((nI_eq (a := f) (b := 0) (by omega) (by decide)).mp q)
section RB
variable {B : Nat → Nat} {n L : Nat} {xs : Nat → Int32} {M0 M : ir_M} {d dp s f p : Nat}
theorem r_F_z (h : r_F B n L xs M0 f p M) : ¬ ir_I M 412 12 = 0 := by rw [h.2.2.2.1.1]; exact n_fz h.2.2.2.1.2.1 h.2.2.2.1.2.2
/-- a field of 412 changed that no reading needs -/
theorem r_F_s {k : Nat} {v : Int32} (h : r_F B n L xs M0 f p M) (hk : k ≠ 4 ∧ k ≠ 6 ∧ k ≠ 7 ∧ k ≠ 12 ∧ k ≠ 13 ∧ k ≠ 14 ∧ k ≠ 15) : r_F B n L xs M0 f p (ir_sI M 412 k v) := by
  obtain ⟨h1, h2, h3, h4, h5, g, g6, h6⟩ := h
  have q1 : q_eq [412, 414] M (ir_sI M 412 k v) := q_eq.sI (by decide)
  refine ⟨r_tx_eq h1 q1 (by decide) (q_I_k (by omega)), h2.tr q1, fun j hj => ?_, ⟨?_, h4.2⟩, ?_, g, g6, ?_⟩
  · rw [q_I_k (by omega)]; exact h3 j hj
  · rw [q_I_k (by omega)]; exact h4.1
  · rw [q_I_k (by omega)]; exact h5
  · rw [q_I_eq (S := [412]) (q_eq.sI (by decide)) (by decide)]; exact h6
theorem r_next (h : r_T B n L xs M0 dp s M) (hd : 3 ≤ d) : ∃ M', m_X12_readsOn d 412 M = ir_oV M' ∧ r_T B n L xs M0 dp (k_nt B n s) M' ∧ q_eq [412] M M' := by
  obtain ⟨e, rfl⟩ : ∃ e, d = e + 3 := ⟨d - 3, by omega⟩
  obtain ⟨h1, h2, h3, h4, h5, h6, h7, h8, h9, h10⟩ := h
  obtain ⟨b1, b2, b3, b4, b5, b6, b7, b8⟩ := k_nt_b (B := B) h4
  obtain ⟨M', e1, q1, k1, r1, r2, r3, r4⟩ := r_nx (d := e) h1 b7 h6 rfl
  have q2 : q_eq [412, 414] M M' := q1.sub (by decide)
  refine ⟨M', e1, ⟨r_tx_eq h1 q1 (by decide) (k1 7 (by decide) (by decide) (by decide) (by decide)), h2.tr q2, fun k hk => ?_, b2, ?_, r1, r3, r2, r4, ?_⟩, q1⟩
  · rw [k1 k (by omega) (by omega) (by omega) (by omega)]; exact h3 k hk
  · rw [k1 12 (by decide) (by decide) (by decide) (by decide)]; exact h5
  · rw [k1 16 (by decide) (by decide) (by decide) (by decide)]; exact h10
theorem r_blame (h : r_T B n L xs M0 dp s M) {w g : Nat} (hw : w ≠ 0 ∧ w ≤ 4) (hg : g ≤ 6) (h1g : ir_I M 414 1 = nI g) (hd : 1 ≤ d) : ∃ M', m_X12_blames d 412 (nI w) M = ir_oV M' ∧ r_F B n L xs M0 (k_fk (k_kd B n s) w) s M' := by
  obtain ⟨e, rfl⟩ : ∃ e, d = e + 1 := ⟨d - 1, by omega⟩
  obtain ⟨h1, h2, h3, h4, h5, h6, h7, h8, h9, h10⟩ := h
  obtain ⟨b1, b2, b3, b4, b5, b6, b7, b8⟩ := k_nt_b (B := B) h4
  obtain ⟨i1, i2, i3, i4, i5, i6⟩ := k_rt_i (k_kd B n s)
  have h900 := h1.2.1
  have go : ∀ f, f ≠ 0 ∧ f ≤ 4 → r_F B n L xs M0 f s (ir_sI (ir_sI M 412 12 (nI f)) 412 13 (nI s)) := fun f hf => by
    have q1 : q_eq [412] M (ir_sI (ir_sI M 412 12 (nI f)) 412 13 (nI s)) := (q_eq.sI (by decide)).tr (q_eq.sI (by decide))
    refine ⟨r_tx_eq h1 q1 (by decide) (by rw [q_I_k (by decide), q_I_k (by decide)]), h2.tr (q1.sub (by decide)), fun k hk => ?_, ⟨by rw [q_I_k (by decide), q_I_s], hf⟩, q_I_s, g, hg, ?_⟩
    · rw [q_I_k (by omega), q_I_k (by omega)]; exact h3 k hk
    · rw [q_I_eq q1 (by decide)]; exact h1g
  unfold k_fk
  by_cases c : k_kd B n s = 1
  · rw [if_pos c]
    refine ⟨_, ?_, go 1 (by decide)⟩
    rw [E_X12_blames]
    simp (disch := omega) only [q_ckt, q_lt, q_cI, q_cJ, q_cV, q_cP, q_xI, q_xV, q_xP, q_xJ, g_gk, g_ga, g_gw, g_gp, g_gq, g_P, g_J, q_I_s, q_I_n, q_I_k, nI_add, pk_sub, pk_mul, nI_clamp, n_lt0, n_0lt, n_eq0, n_lt, n_le, n_eq, n_m1, n_m2, n_m9, n_12, n_19, n_10, n_01, n_1n1, n_0n1, n_1n0, n_0n0, n_dI, n_m1lt, q_inb, n_nar, n_nar0, n_nar1, n_bool, Bool.false_eq_true, Bool.true_eq_false, if_true, if_false, ↓reduceIte, Nat.reduceAdd, Nat.reduceMul, Nat.reduceSub, Nat.reduceLT, Nat.reduceLeDiff, Nat.reduceEqDiff, Nat.reduceMod, Nat.reduceDiv, q_R h1.1, h5, h8, i4.mpr c, h7]
  · rw [if_neg c]
    refine ⟨_, ?_, go w hw⟩
    have z : ¬ k_rt (k_kd B n s) = 3 := fun q => c (i4.mp q)
    rw [E_X12_blames]
    simp (disch := omega) only [q_ckt, q_lt, q_cI, q_cJ, q_cV, q_cP, q_xI, q_xV, q_xP, q_xJ, g_gk, g_ga, g_gw, g_gp, g_gq, g_P, g_J, q_I_s, q_I_n, q_I_k, nI_add, pk_sub, pk_mul, nI_clamp, n_lt0, n_0lt, n_eq0, n_lt, n_le, n_eq, n_m1, n_m2, n_m9, n_12, n_19, n_10, n_01, n_1n1, n_0n1, n_1n0, n_0n0, n_dI, n_m1lt, q_inb, n_nar, n_nar0, n_nar1, n_bool, Bool.false_eq_true, Bool.true_eq_false, if_true, if_false, ↓reduceIte, Nat.reduceAdd, Nat.reduceMul, Nat.reduceSub, Nat.reduceLT, Nat.reduceLeDiff, Nat.reduceEqDiff, Nat.reduceMod, Nat.reduceDiv, q_R h1.1, h5, h8, z, h7]
theorem r_blameF (h : r_F B n L xs M0 f p M) {w : Int32} (hd : 1 ≤ d) : m_X12_blames d 412 w M = ir_oV M := by
  obtain ⟨e, rfl⟩ : ∃ e, d = e + 1 := ⟨d - 1, by omega⟩
  rw [E_X12_blames]
  simp (disch := omega) only [q_ckt, q_lt, q_cI, q_cJ, q_cV, q_cP, q_xI, q_xV, q_xP, q_xJ, g_gk, g_ga, g_gw, g_gp, g_gq, g_P, g_J, q_I_s, q_I_n, q_I_k, nI_add, pk_sub, pk_mul, nI_clamp, n_lt0, n_0lt, n_eq0, n_lt, n_le, n_eq, n_m1, n_m2, n_m9, n_12, n_19, n_10, n_01, n_1n1, n_0n1, n_1n0, n_0n0, n_dI, n_m1lt, q_inb, n_nar, n_nar0, n_nar1, n_bool, Bool.false_eq_true, Bool.true_eq_false, if_true, if_false, ↓reduceIte, Nat.reduceAdd, Nat.reduceMul, Nat.reduceSub, Nat.reduceLT, Nat.reduceLeDiff, Nat.reduceEqDiff, Nat.reduceMod, Nat.reduceDiv, q_R h.1.1, r_F_z h]
theorem r_iwl (h : r_T B n L xs M0 dp s M) {j : Nat} (hj : j < 22) (hl : k_en B n s = s + (k_wl.getD j []).length) : ∀ (r k : Nat), k + r = (k_wl.getD j []).length → ∃ v : Nat, v_X12_isWord_39 (d + 5) 412 (1000000 + k_rs j) (nI 1) (nI k) M = ir_oI (nI v) M ∧ (v = 0 ∨ v = 1) ∧ (v = 1 ↔ ∀ x, k ≤ x → x < (k_wl.getD j []).length → B (s + x) = (k_wl.getD j []).getD x 0)
  | 0, k, hk => by
    obtain ⟨r1, r2, r3⟩ := n_rs j hj
    have sl := s_ln (M := M) (d := d + 3) h.1.2.2.2.2 r1
    have g1 := (s_st (M := M) h.1.2.2.2.2 r1).1
    have l1 := s_len _ r1
    refine ⟨1, ?_, Or.inr rfl, ⟨fun _ x h1 h2 => by omega, fun _ => rfl⟩⟩
    rw [L_X12_isWord_39]
    simp (disch := omega) only [q_ckt, q_lt, q_cI, q_cJ, q_cV, q_cP, q_xI, q_xV, q_xP, q_xJ, g_gk, g_ga, g_gw, g_gp, g_gq, g_P, g_J, q_I_s, q_I_n, q_I_k, nI_add, pk_sub, pk_mul, nI_clamp, n_lt0, n_0lt, n_eq0, n_lt, n_le, n_eq, n_m1, n_m2, n_m9, n_12, n_19, n_10, n_01, n_1n1, n_0n1, n_1n0, n_0n0, n_dI, n_m1lt, q_inb, n_nar, n_nar0, n_nar1, n_bool, Bool.false_eq_true, Bool.true_eq_false, if_true, if_false, ↓reduceIte, Nat.reduceAdd, Nat.reduceMul, Nat.reduceSub, Nat.reduceLT, Nat.reduceLeDiff, Nat.reduceEqDiff, Nat.reduceMod, Nat.reduceDiv, g1, sl, r2, show ¬ k < (k_wl.getD j []).length by omega, n_nr]
  | r + 1, k, hk => by
    obtain ⟨r1, r2, r3⟩ := n_rs j hj
    have sl := s_ln (M := M) (d := d + 3) h.1.2.2.2.2 r1
    have g1 := (s_st (M := M) h.1.2.2.2.2 r1).1
    have l1 := s_len _ r1
    obtain ⟨c1, c2⟩ := r3 k (by omega)
    have sc := s_ch (M := M) (d := d) h.1.2.2.2.2 r1 (k := k) (by omega) c1 c2
    obtain ⟨b1, b2, b3, b4, b5, b6, b7, b8⟩ := k_nt_b (B := B) h.2.2.2.1
    have h900 := h.1.2.1
    obtain ⟨t1, t2⟩ := h.1.2.2.1 (s + k) (by omega)
    have h9 := h.2.2.2.2.2.2.1
    have s900 : s ≤ 900 := by omega
    by_cases q : B (s + k) = (k_wl.getD j []).getD k 0
    · obtain ⟨v, e1, e2, e3⟩ := r_iwl h hj hl r (k + 1) (by omega)
      refine ⟨v, ?_, e2, e3.trans ⟨fun w x h1 h2 => ?_, fun w x h1 h2 => w x (by omega) h2⟩⟩
      · rw [← e1, L_X12_isWord_39]
        simp (disch := omega) only [q_ckt, q_lt, q_cI, q_cJ, q_cV, q_cP, q_xI, q_xV, q_xP, q_xJ, g_gk, g_ga, g_gw, g_gp, g_gq, g_P, g_J, q_I_s, q_I_n, q_I_k, nI_add, pk_sub, pk_mul, nI_clamp, n_lt0, n_0lt, n_eq0, n_lt, n_le, n_eq, n_m1, n_m2, n_m9, n_12, n_19, n_10, n_01, n_1n1, n_0n1, n_1n0, n_0n0, n_dI, n_m1lt, q_inb, n_nar, n_nar0, n_nar1, n_bool, Bool.false_eq_true, Bool.true_eq_false, if_true, if_false, ↓reduceIte, Nat.reduceAdd, Nat.reduceMul, Nat.reduceSub, Nat.reduceLT, Nat.reduceLeDiff, Nat.reduceEqDiff, Nat.reduceMod, Nat.reduceDiv, g1, sl, r2, show k < (k_wl.getD j []).length by omega, q_R h.1.1, h9, sc, t2, q]
      · by_cases z : x = k
        · rw [z]; exact q
        · exact w x (by omega) h2
    · refine ⟨0, ?_, Or.inl rfl, ⟨(fun w => nomatch w), fun w => absurd (w k (Nat.le_refl _) (by omega)) q⟩⟩
      rw [L_X12_isWord_39]
      simp (disch := omega) only [q_ckt, q_lt, q_cI, q_cJ, q_cV, q_cP, q_xI, q_xV, q_xP, q_xJ, g_gk, g_ga, g_gw, g_gp, g_gq, g_P, g_J, q_I_s, q_I_n, q_I_k, nI_add, pk_sub, pk_mul, nI_clamp, n_lt0, n_0lt, n_eq0, n_lt, n_le, n_eq, n_m1, n_m2, n_m9, n_12, n_19, n_10, n_01, n_1n1, n_0n1, n_1n0, n_0n0, n_dI, n_m1lt, q_inb, n_nar, n_nar0, n_nar1, n_bool, Bool.false_eq_true, Bool.true_eq_false, if_true, if_false, ↓reduceIte, Nat.reduceAdd, Nat.reduceMul, Nat.reduceSub, Nat.reduceLT, Nat.reduceLeDiff, Nat.reduceEqDiff, Nat.reduceMod, Nat.reduceDiv, g1, sl, r2, show k < (k_wl.getD j []).length by omega, q_R h.1.1, h9, sc, t2, q]
      rw [L_X12_isWord_39]
      simp (disch := omega) only [q_ckt, q_lt, q_cI, q_cJ, q_cV, q_cP, q_xI, q_xV, q_xP, q_xJ, g_gk, g_ga, g_gw, g_gp, g_gq, g_P, g_J, q_I_s, q_I_n, q_I_k, nI_add, pk_sub, pk_mul, nI_clamp, n_lt0, n_0lt, n_eq0, n_lt, n_le, n_eq, n_m1, n_m2, n_m9, n_12, n_19, n_10, n_01, n_1n1, n_0n1, n_1n0, n_0n0, n_dI, n_m1lt, q_inb, n_nar, n_nar0, n_nar1, n_bool, Bool.false_eq_true, Bool.true_eq_false, if_true, if_false, ↓reduceIte, Nat.reduceAdd, Nat.reduceMul, Nat.reduceSub, Nat.reduceLT, Nat.reduceLeDiff, Nat.reduceEqDiff, Nat.reduceMod, Nat.reduceDiv, n_nr]
theorem k_tx_w {e : Nat} {W : List Nat} (he : e = s + W.length) : k_tx B s e = W ↔ ∀ x, 0 ≤ x → x < W.length → B (s + x) = W.getD x 0 := by
  constructor
  · intro w x _ hx
    rw [← w, k_tx_g (by omega)]
  · intro w
    apply List.ext_getElem
    · rw [k_tx_len]; omega
    · intro i h1 h2
      have z := w i (Nat.zero_le _) h2
      rw [k_tx_len] at h1
      have y := k_tx_g (B := B) h1
      rw [List.getD_eq_getElem?_getD, List.getElem?_eq_getElem (by rw [k_tx_len]; exact h1)] at y
      rw [List.getD_eq_getElem?_getD, List.getElem?_eq_getElem h2] at z
      exact y.trans z
theorem r_word (h : r_T B n L xs M0 dp s M) {j : Nat} (hj : j < 22) (hd : 6 ≤ d) : m_X12_isWord d 412 (1000000 + k_rs j) M = ir_oI (if k_kd B n s = 256 + j then nI 1 else nI 0) M := by
  obtain ⟨e, rfl⟩ : ∃ e, d = e + 6 := ⟨d - 6, by omega⟩
  obtain ⟨r1, r2, r3⟩ := n_rs j hj
  have sl := s_ln (M := M) (d := e + 3) h.1.2.2.2.2 r1
  have g1 := (s_st (M := M) h.1.2.2.2.2 r1).1
  have l1 := s_len _ r1
  obtain ⟨b1, b2, b3, b4, b5, b6, b7, b8⟩ := k_nt_b (B := B) h.2.2.2.1
  have h900 := h.1.2.1
  have s900 : s ≤ 900 := by omega
  have h9 := h.2.2.2.2.2.2.1
  have h8 := h.2.2.2.2.2.1
  have h10 := h.2.2.2.2.2.2.2.1
  have h12 := h.2.2.2.2.1
  have i5 := (k_rt_i (k_kd B n s)).2.2.2.2.1
  have no : ∀ M, v_X12_isWord_39 (e + 5) 412 (1000000 + k_rs j) (nI 0) (nI 0) M = ir_oI (nI 0) M := fun M => by
    rw [L_X12_isWord_39]
    simp (disch := omega) only [q_ckt, q_lt, q_cI, q_cJ, q_cV, q_cP, q_xI, q_xV, q_xP, q_xJ, g_gk, g_ga, g_gw, g_gp, g_gq, g_P, g_J, q_I_s, q_I_n, q_I_k, nI_add, pk_sub, pk_mul, nI_clamp, n_lt0, n_0lt, n_eq0, n_lt, n_le, n_eq, n_m1, n_m2, n_m9, n_12, n_19, n_10, n_01, n_1n1, n_0n1, n_1n0, n_0n0, n_dI, n_m1lt, q_inb, n_nar, n_nar0, n_nar1, n_bool, Bool.false_eq_true, Bool.true_eq_false, if_true, if_false, ↓reduceIte, Nat.reduceAdd, Nat.reduceMul, Nat.reduceSub, Nat.reduceLT, Nat.reduceLeDiff, Nat.reduceEqDiff, Nat.reduceMod, Nat.reduceDiv, n_nr]
  by_cases c : k_rt (k_kd B n s) = 1
  · have kw := (k_kw c).1
    by_cases q : k_en B n s - s = (k_wl.getD j []).length
    · obtain ⟨v, e1, e2, e3⟩ := r_iwl (d := e) h hj (by omega) (k_wl.getD j []).length 0 (by omega)
      have e4 : k_kd B n s = 256 + j ↔ v = 1 := by
        rw [kw, k_wc_i hj, k_tx_w (by omega)]
        exact e3.symm
      have e5 : (if k_kd B n s = 256 + j then nI 1 else nI 0) = nI v := by
        rcases e2 with z | z
        · rw [if_neg (fun w => by have := e4.mp w; omega), z]
        · rw [if_pos (e4.mpr z), z]
      rw [e5, ← e1, E_X12_isWord]
      simp (disch := omega) only [q_ckt, q_lt, q_cI, q_cJ, q_cV, q_cP, q_xI, q_xV, q_xP, q_xJ, g_gk, g_ga, g_gw, g_gp, g_gq, g_P, g_J, q_I_s, q_I_n, q_I_k, nI_add, pk_sub, pk_mul, nI_clamp, n_lt0, n_0lt, n_eq0, n_lt, n_le, n_eq, n_m1, n_m2, n_m9, n_12, n_19, n_10, n_01, n_1n1, n_0n1, n_1n0, n_0n0, n_dI, n_m1lt, q_inb, n_nar, n_nar0, n_nar1, n_bool, Bool.false_eq_true, Bool.true_eq_false, if_true, if_false, ↓reduceIte, Nat.reduceAdd, Nat.reduceMul, Nat.reduceSub, Nat.reduceLT, Nat.reduceLeDiff, Nat.reduceEqDiff, Nat.reduceMod, Nat.reduceDiv, q_R h.1.1, h12, h10, c, h8, h9, g1, sl, r2, q]
    · rw [if_neg (fun w => by
        rw [kw, k_wc_i hj] at w
        have := congrArg List.length w
        rw [k_tx_len] at this
        omega), ← no M, E_X12_isWord]
      simp (disch := omega) only [q_ckt, q_lt, q_cI, q_cJ, q_cV, q_cP, q_xI, q_xV, q_xP, q_xJ, g_gk, g_ga, g_gw, g_gp, g_gq, g_P, g_J, q_I_s, q_I_n, q_I_k, nI_add, pk_sub, pk_mul, nI_clamp, n_lt0, n_0lt, n_eq0, n_lt, n_le, n_eq, n_m1, n_m2, n_m9, n_12, n_19, n_10, n_01, n_1n1, n_0n1, n_1n0, n_0n0, n_dI, n_m1lt, q_inb, n_nar, n_nar0, n_nar1, n_bool, Bool.false_eq_true, Bool.true_eq_false, if_true, if_false, ↓reduceIte, Nat.reduceAdd, Nat.reduceMul, Nat.reduceSub, Nat.reduceLT, Nat.reduceLeDiff, Nat.reduceEqDiff, Nat.reduceMod, Nat.reduceDiv, q_R h.1.1, h12, h10, c, h8, h9, g1, sl, r2, q]
  · rw [if_neg (fun w => c ((k_rt_i _).2.1.mpr (by omega))), ← no M, E_X12_isWord]
    simp (disch := omega) only [q_ckt, q_lt, q_cI, q_cJ, q_cV, q_cP, q_xI, q_xV, q_xP, q_xJ, g_gk, g_ga, g_gw, g_gp, g_gq, g_P, g_J, q_I_s, q_I_n, q_I_k, nI_add, pk_sub, pk_mul, nI_clamp, n_lt0, n_0lt, n_eq0, n_lt, n_le, n_eq, n_m1, n_m2, n_m9, n_12, n_19, n_10, n_01, n_1n1, n_0n1, n_1n0, n_0n0, n_dI, n_m1lt, q_inb, n_nar, n_nar0, n_nar1, n_bool, Bool.false_eq_true, Bool.true_eq_false, if_true, if_false, ↓reduceIte, Nat.reduceAdd, Nat.reduceMul, Nat.reduceSub, Nat.reduceLT, Nat.reduceLeDiff, Nat.reduceEqDiff, Nat.reduceMod, Nat.reduceDiv, q_R h.1.1, h12, h10, c]
theorem r_wordF (h : r_F B n L xs M0 f p M) {a : Nat} (hd : 1 ≤ d) : m_X12_isWord d 412 a M = ir_oI (nI 0) M := by
  obtain ⟨e, rfl⟩ : ∃ e, d = e + 1 := ⟨d - 1, by omega⟩
  rw [E_X12_isWord]
  simp (disch := omega) only [q_ckt, q_lt, q_cI, q_cJ, q_cV, q_cP, q_xI, q_xV, q_xP, q_xJ, g_gk, g_ga, g_gw, g_gp, g_gq, g_P, g_J, q_I_s, q_I_n, q_I_k, nI_add, pk_sub, pk_mul, nI_clamp, n_lt0, n_0lt, n_eq0, n_lt, n_le, n_eq, n_m1, n_m2, n_m9, n_12, n_19, n_10, n_01, n_1n1, n_0n1, n_1n0, n_0n0, n_dI, n_m1lt, q_inb, n_nar, n_nar0, n_nar1, n_bool, Bool.false_eq_true, Bool.true_eq_false, if_true, if_false, ↓reduceIte, Nat.reduceAdd, Nat.reduceMul, Nat.reduceSub, Nat.reduceLT, Nat.reduceLeDiff, Nat.reduceEqDiff, Nat.reduceMod, Nat.reduceDiv, q_R h.1.1, r_F_z h, L_X12_isWord_39, n_nr]
theorem r_took (h : r_T B n L xs M0 dp s M) {j : Nat} (hj : j < 22) (hd : 7 ≤ d) : ∃ M', m_X12_took d 412 (1000000 + k_rs j) M = ir_oI (if k_kd B n s = 256 + j then nI 1 else nI 0) M' ∧ (k_kd B n s = 256 + j → r_T B n L xs M0 dp (k_nt B n s) M' ∧ q_eq [412] M M') ∧ (k_kd B n s ≠ 256 + j → M' = M) := by
  obtain ⟨e, rfl⟩ : ∃ e, d = e + 1 := ⟨d - 1, by omega⟩
  have w := r_word (d := e) h hj (by omega)
  by_cases c : k_kd B n s = 256 + j
  · rw [if_pos c] at w ⊢
    obtain ⟨M', e1, t1, q1⟩ := r_next (d := e) h (by omega)
    refine ⟨M', ?_, fun _ => ⟨t1, q1⟩, fun z => absurd c z⟩
    rw [E_X12_took]
    simp (disch := omega) only [q_ckt, q_lt, q_cI, q_cJ, q_cV, q_cP, q_xI, q_xV, q_xP, q_xJ, g_gk, g_ga, g_gw, g_gp, g_gq, g_P, g_J, q_I_s, q_I_n, q_I_k, nI_add, pk_sub, pk_mul, nI_clamp, n_lt0, n_0lt, n_eq0, n_lt, n_le, n_eq, n_m1, n_m2, n_m9, n_12, n_19, n_10, n_01, n_1n1, n_0n1, n_1n0, n_0n0, n_dI, n_m1lt, q_inb, n_nar, n_nar0, n_nar1, n_bool, Bool.false_eq_true, Bool.true_eq_false, if_true, if_false, ↓reduceIte, Nat.reduceAdd, Nat.reduceMul, Nat.reduceSub, Nat.reduceLT, Nat.reduceLeDiff, Nat.reduceEqDiff, Nat.reduceMod, Nat.reduceDiv, q_R h.1.1, w, e1, n_nr]
  · rw [if_neg c] at w ⊢
    refine ⟨M, ?_, fun z => absurd z c, fun _ => rfl⟩
    rw [E_X12_took]
    simp (disch := omega) only [q_ckt, q_lt, q_cI, q_cJ, q_cV, q_cP, q_xI, q_xV, q_xP, q_xJ, g_gk, g_ga, g_gw, g_gp, g_gq, g_P, g_J, q_I_s, q_I_n, q_I_k, nI_add, pk_sub, pk_mul, nI_clamp, n_lt0, n_0lt, n_eq0, n_lt, n_le, n_eq, n_m1, n_m2, n_m9, n_12, n_19, n_10, n_01, n_1n1, n_0n1, n_1n0, n_0n0, n_dI, n_m1lt, q_inb, n_nar, n_nar0, n_nar1, n_bool, Bool.false_eq_true, Bool.true_eq_false, if_true, if_false, ↓reduceIte, Nat.reduceAdd, Nat.reduceMul, Nat.reduceSub, Nat.reduceLT, Nat.reduceLeDiff, Nat.reduceEqDiff, Nat.reduceMod, Nat.reduceDiv, q_R h.1.1, w, n_nr]
theorem r_tookF (h : r_F B n L xs M0 f p M) {a : Nat} (hd : 2 ≤ d) : m_X12_took d 412 a M = ir_oI (nI 0) M := by
  obtain ⟨e, rfl⟩ : ∃ e, d = e + 1 := ⟨d - 1, by omega⟩
  have w := r_wordF (d := e) h (a := a) (by omega)
  rw [E_X12_took]
  simp (disch := omega) only [q_ckt, q_lt, q_cI, q_cJ, q_cV, q_cP, q_xI, q_xV, q_xP, q_xJ, g_gk, g_ga, g_gw, g_gp, g_gq, g_P, g_J, q_I_s, q_I_n, q_I_k, nI_add, pk_sub, pk_mul, nI_clamp, n_lt0, n_0lt, n_eq0, n_lt, n_le, n_eq, n_m1, n_m2, n_m9, n_12, n_19, n_10, n_01, n_1n1, n_0n1, n_1n0, n_0n0, n_dI, n_m1lt, q_inb, n_nar, n_nar0, n_nar1, n_bool, Bool.false_eq_true, Bool.true_eq_false, if_true, if_false, ↓reduceIte, Nat.reduceAdd, Nat.reduceMul, Nat.reduceSub, Nat.reduceLT, Nat.reduceLeDiff, Nat.reduceEqDiff, Nat.reduceMod, Nat.reduceDiv, q_R h.1.1, w, n_nr]
theorem r_sign (h : r_T B n L xs M0 dp s M) {c : Nat} (hc : 4 ≤ c ∧ c < 256) (hd : 1 ≤ d) : m_X12_isSign d 412 (nI c) M = ir_oI (if k_kd B n s = c then nI 1 else nI 0) M := by
  obtain ⟨e, rfl⟩ : ∃ e, d = e + 1 := ⟨d - 1, by omega⟩
  obtain ⟨b1, b2, b3, b4, b5, b6, b7, b8⟩ := k_nt_b (B := B) h.2.2.2.1
  have i5 := (k_rt_i (k_kd B n s)).2.2.2.2
  have i6 := i5.2 c hc.1 hc.2
  have h10 := h.2.2.2.2.2.2.2.1
  have h12 := h.2.2.2.2.1
  rw [E_X12_isSign]
  by_cases q : k_kd B n s = c
  · rw [if_pos q]
    simp (disch := omega) only [q_ckt, q_lt, q_cI, q_cJ, q_cV, q_cP, q_xI, q_xV, q_xP, q_xJ, g_gk, g_ga, g_gw, g_gp, g_gq, g_P, g_J, q_I_s, q_I_n, q_I_k, nI_add, pk_sub, pk_mul, nI_clamp, n_lt0, n_0lt, n_eq0, n_lt, n_le, n_eq, n_m1, n_m2, n_m9, n_12, n_19, n_10, n_01, n_1n1, n_0n1, n_1n0, n_0n0, n_dI, n_m1lt, q_inb, n_nar, n_nar0, n_nar1, n_bool, Bool.false_eq_true, Bool.true_eq_false, if_true, if_false, ↓reduceIte, Nat.reduceAdd, Nat.reduceMul, Nat.reduceSub, Nat.reduceLT, Nat.reduceLeDiff, Nat.reduceEqDiff, Nat.reduceMod, Nat.reduceDiv, q_R h.1.1, h12, h10, i6.mpr q, n_nr]
  · rw [if_neg q]
    have z : ¬ k_rt (k_kd B n s) = c := fun w => q (i6.mp w)
    simp (disch := omega) only [q_ckt, q_lt, q_cI, q_cJ, q_cV, q_cP, q_xI, q_xV, q_xP, q_xJ, g_gk, g_ga, g_gw, g_gp, g_gq, g_P, g_J, q_I_s, q_I_n, q_I_k, nI_add, pk_sub, pk_mul, nI_clamp, n_lt0, n_0lt, n_eq0, n_lt, n_le, n_eq, n_m1, n_m2, n_m9, n_12, n_19, n_10, n_01, n_1n1, n_0n1, n_1n0, n_0n0, n_dI, n_m1lt, q_inb, n_nar, n_nar0, n_nar1, n_bool, Bool.false_eq_true, Bool.true_eq_false, if_true, if_false, ↓reduceIte, Nat.reduceAdd, Nat.reduceMul, Nat.reduceSub, Nat.reduceLT, Nat.reduceLeDiff, Nat.reduceEqDiff, Nat.reduceMod, Nat.reduceDiv, q_R h.1.1, h12, h10, z, n_nr]
theorem r_signF (h : r_F B n L xs M0 f p M) {c : Int32} (hd : 1 ≤ d) : m_X12_isSign d 412 c M = ir_oI (nI 0) M := by
  obtain ⟨e, rfl⟩ : ∃ e, d = e + 1 := ⟨d - 1, by omega⟩
  rw [E_X12_isSign]
  simp (disch := omega) only [q_ckt, q_lt, q_cI, q_cJ, q_cV, q_cP, q_xI, q_xV, q_xP, q_xJ, g_gk, g_ga, g_gw, g_gp, g_gq, g_P, g_J, q_I_s, q_I_n, q_I_k, nI_add, pk_sub, pk_mul, nI_clamp, n_lt0, n_0lt, n_eq0, n_lt, n_le, n_eq, n_m1, n_m2, n_m9, n_12, n_19, n_10, n_01, n_1n1, n_0n1, n_1n0, n_0n0, n_dI, n_m1lt, q_inb, n_nar, n_nar0, n_nar1, n_bool, Bool.false_eq_true, Bool.true_eq_false, if_true, if_false, ↓reduceIte, Nat.reduceAdd, Nat.reduceMul, Nat.reduceSub, Nat.reduceLT, Nat.reduceLeDiff, Nat.reduceEqDiff, Nat.reduceMod, Nat.reduceDiv, q_R h.1.1, r_F_z h, n_nr]
theorem r_must (h : r_T B n L xs M0 dp s M) {c g : Nat} (hc : 4 ≤ c ∧ c < 256) (hg : g ≤ 6) (h1g : ir_I M 414 1 = nI g) (hd : 4 ≤ d) : ∃ M', m_X12_mustSign d 412 (nI c) M = ir_oV M' ∧ (k_kd B n s = c → r_T B n L xs M0 dp (k_nt B n s) M' ∧ q_eq [412] M M') ∧ (k_kd B n s ≠ c → r_F B n L xs M0 (k_fk (k_kd B n s) 2) s M') := by
  obtain ⟨e, rfl⟩ : ∃ e, d = e + 1 := ⟨d - 1, by omega⟩
  obtain ⟨b1, b2, b3, b4, b5, b6, b7, b8⟩ := k_nt_b (B := B) h.2.2.2.1
  have i5 := (k_rt_i (k_kd B n s)).2.2.2.2
  have i6 := i5.2 c hc.1 hc.2
  have h10 := h.2.2.2.2.2.2.2.1
  have h12 := h.2.2.2.2.1
  by_cases q : k_kd B n s = c
  · obtain ⟨M', e1, t1, q1⟩ := r_next (d := e) h (by omega)
    refine ⟨M', ?_, fun _ => ⟨t1, q1⟩, fun z => absurd q z⟩
    rw [E_X12_mustSign]
    simp (disch := omega) only [q_ckt, q_lt, q_cI, q_cJ, q_cV, q_cP, q_xI, q_xV, q_xP, q_xJ, g_gk, g_ga, g_gw, g_gp, g_gq, g_P, g_J, q_I_s, q_I_n, q_I_k, nI_add, pk_sub, pk_mul, nI_clamp, n_lt0, n_0lt, n_eq0, n_lt, n_le, n_eq, n_m1, n_m2, n_m9, n_12, n_19, n_10, n_01, n_1n1, n_0n1, n_1n0, n_0n0, n_dI, n_m1lt, q_inb, n_nar, n_nar0, n_nar1, n_bool, Bool.false_eq_true, Bool.true_eq_false, if_true, if_false, ↓reduceIte, Nat.reduceAdd, Nat.reduceMul, Nat.reduceSub, Nat.reduceLT, Nat.reduceLeDiff, Nat.reduceEqDiff, Nat.reduceMod, Nat.reduceDiv, q_R h.1.1, h12, h10, i6.mpr q, e1]
  · obtain ⟨M', e1, t1⟩ := r_blame (d := e) h (w := 2) (by decide) hg h1g (by omega)
    refine ⟨M', ?_, fun z => absurd z q, fun _ => t1⟩
    have z : ¬ k_rt (k_kd B n s) = c := fun w => q (i6.mp w)
    rw [E_X12_mustSign]
    simp (disch := omega) only [q_ckt, q_lt, q_cI, q_cJ, q_cV, q_cP, q_xI, q_xV, q_xP, q_xJ, g_gk, g_ga, g_gw, g_gp, g_gq, g_P, g_J, q_I_s, q_I_n, q_I_k, nI_add, pk_sub, pk_mul, nI_clamp, n_lt0, n_0lt, n_eq0, n_lt, n_le, n_eq, n_m1, n_m2, n_m9, n_12, n_19, n_10, n_01, n_1n1, n_0n1, n_1n0, n_0n0, n_dI, n_m1lt, q_inb, n_nar, n_nar0, n_nar1, n_bool, Bool.false_eq_true, Bool.true_eq_false, if_true, if_false, ↓reduceIte, Nat.reduceAdd, Nat.reduceMul, Nat.reduceSub, Nat.reduceLT, Nat.reduceLeDiff, Nat.reduceEqDiff, Nat.reduceMod, Nat.reduceDiv, q_R h.1.1, h12, h10, z, e1, q_R t1.1.1, r_F_z t1]
theorem r_mustF (h : r_F B n L xs M0 f p M) {c : Int32} (hd : 2 ≤ d) : m_X12_mustSign d 412 c M = ir_oV M := by
  obtain ⟨e, rfl⟩ : ∃ e, d = e + 1 := ⟨d - 1, by omega⟩
  have w := r_blameF (d := e) h (w := nI 2) (by omega)
  rw [E_X12_mustSign]
  by_cases q : ir_I M 412 10 = c
  · rw [if_pos q]
    simp (disch := omega) only [q_ckt, q_lt, q_cI, q_cJ, q_cV, q_cP, q_xI, q_xV, q_xP, q_xJ, g_gk, g_ga, g_gw, g_gp, g_gq, g_P, g_J, q_I_s, q_I_n, q_I_k, nI_add, pk_sub, pk_mul, nI_clamp, n_lt0, n_0lt, n_eq0, n_lt, n_le, n_eq, n_m1, n_m2, n_m9, n_12, n_19, n_10, n_01, n_1n1, n_0n1, n_1n0, n_0n0, n_dI, n_m1lt, q_inb, n_nar, n_nar0, n_nar1, n_bool, Bool.false_eq_true, Bool.true_eq_false, if_true, if_false, ↓reduceIte, Nat.reduceAdd, Nat.reduceMul, Nat.reduceSub, Nat.reduceLT, Nat.reduceLeDiff, Nat.reduceEqDiff, Nat.reduceMod, Nat.reduceDiv, q_R h.1.1, r_F_z h]
  · rw [if_neg q]
    simp (disch := omega) only [q_ckt, q_lt, q_cI, q_cJ, q_cV, q_cP, q_xI, q_xV, q_xP, q_xJ, g_gk, g_ga, g_gw, g_gp, g_gq, g_P, g_J, q_I_s, q_I_n, q_I_k, nI_add, pk_sub, pk_mul, nI_clamp, n_lt0, n_0lt, n_eq0, n_lt, n_le, n_eq, n_m1, n_m2, n_m9, n_12, n_19, n_10, n_01, n_1n1, n_0n1, n_1n0, n_0n0, n_dI, n_m1lt, q_inb, n_nar, n_nar0, n_nar1, n_bool, Bool.false_eq_true, Bool.true_eq_false, if_true, if_false, ↓reduceIte, Nat.reduceAdd, Nat.reduceMul, Nat.reduceSub, Nat.reduceLT, Nat.reduceLeDiff, Nat.reduceEqDiff, Nat.reduceMod, Nat.reduceDiv, q_R h.1.1, r_F_z h, w]
end RB
