/-! kind and cruel, liked more -/
def k_ot (K A : Nat → Int32) (i : Nat) : Int32 := k_sm (k_fw K (k_fr K A)) (k_m K) - k_fw K (k_fr K A) i
def k_kl (K A : Nat → Int32) (i : Nat) : Int32 := k_li K (k_fr K A) i
def k_bt (kd : Bool) (a b : Int32) : Bool := if kd = true then decide (a < b) else decide (b < a)
def k_ks (K A : Nat → Int32) (i : Nat) (kd : Bool) : Nat → Option Nat × Int32
  | 0 => (none, nI 0)
  | g + 1 => if k_al K (k_q K i) (nI g) (nI i) = true then (match (k_ks K A i kd g).1 with | none => (some g, k_ot K (upd A i (nI g)) i) | some _ => if k_bt kd (k_ks K A i kd g).2 (k_ot K (upd A i (nI g)) i) = true then (some g, k_ot K (upd A i (nI g)) i) else k_ks K A i kd g) else k_ks K A i kd g
def k_bs (K A : Nat → Int32) (i : Nat) : Nat → Option Nat × Int32
  | 0 => (none, k_kl K A i)
  | g + 1 => if k_al K (k_q K i) (nI g) (nI i) = true then (if (k_bs K A i g).2 < k_kl K (upd A i (nI g)) i then (some g, k_kl K (upd A i (nI g)) i) else k_bs K A i g) else k_bs K A i g
section KN
variable {M : ir_M} {K A : Nat → Int32} {d i : Nat}
theorem k_ks_lt {kd : Bool} : ∀ n {x}, (k_ks K A i kd n).1 = some x → x < n ∧ k_al K (k_q K i) (nI x) (nI i) = true
  | 0, _, h => nomatch h
  | n + 1, x, h => by
    have ih := @k_ks_lt kd n
    unfold k_ks at h
    split at h
    · next q =>
      split at h
      · cases h; exact ⟨by omega, q⟩
      · split at h
        · cases h; exact ⟨by omega, q⟩
        · have := ih h; exact ⟨by omega, this.2⟩
    · have := ih h; exact ⟨by omega, this.2⟩
theorem k_bs_lt : ∀ n {x}, (k_bs K A i n).1 = some x → x < n ∧ k_al K (k_q K i) (nI x) (nI i) = true
  | 0, _, h => nomatch h
  | n + 1, x, h => by
    have ih := @k_bs_lt n
    unfold k_bs at h
    split at h
    · next q =>
      split at h
      · cases h; exact ⟨by omega, q⟩
      · have := ih h; exact ⟨by omega, this.2⟩
    · have := ih h; exact ⟨by omega, this.2⟩
theorem k_smb {f : Nat → Int32} : ∀ n, n ≤ 8 → (∀ i, i < n → -99 ≤ (f i).toInt ∧ (f i).toInt ≤ 99) → -(99 * (n : Int)) ≤ (k_sm f n).toInt ∧ (k_sm f n).toInt ≤ 99 * (n : Int)
  | 0, _, _ => by
    show -(99 * ((0 : Nat) : Int)) ≤ (0 : Int32).toInt ∧ (0 : Int32).toInt ≤ 99 * ((0 : Nat) : Int)
    decide +kernel
  | n + 1, h8, h => by
    obtain ⟨a, b⟩ := k_smb n (by omega) (fun i hi => h i (by omega))
    obtain ⟨c, e⟩ := h n (by omega)
    have s : (k_sm f (n + 1)).toInt = (k_sm f n).toInt + (f n).toInt := by
      show (k_sm f n + f n).toInt = _
      rw [Int32.toInt_add]
      exact Int.bmod_eq_of_le (by omega) (by omega)
    rw [s]
    constructor <;> omega
theorem k_otb (hw : k_wf K) (hA : ∀ j, j < k_m K → k_gd K (A j)) (hi : i < k_m K) : -1000 ≤ (k_ot K A i).toInt ∧ (k_ot K A i).toInt ≤ 1000 := by
  have hb := k_bds hw.1
  have fb : ∀ j, j < k_m K → -99 ≤ (k_fw K (k_fr K A) j).toInt ∧ (k_fw K (k_fr K A) j).toInt ≤ 99 := fun j hj => k_wb hw (k_qn hw.1 hj) (k_fr_gd hw.1 hA hj)
  obtain ⟨a, b⟩ := k_smb (k_m K) (by omega) fb
  obtain ⟨c, e⟩ := fb i hi
  unfold k_ot
  have s : (k_sm (k_fw K (k_fr K A)) (k_m K) - k_fw K (k_fr K A) i).toInt = (k_sm (k_fw K (k_fr K A)) (k_m K)).toInt - (k_fw K (k_fr K A) i).toInt := by
    rw [Int32.toInt_sub]
    exact Int.bmod_eq_of_le (by omega) (by omega)
  rw [s]
  constructor <;> omega
theorem k_neg3 {a b : Int32} (ha : -1000 ≤ a.toInt ∧ a.toInt ≤ 1000) (hb : -1000 ≤ b.toInt ∧ b.toInt ≤ 1000) : (-a < -b) = (b < a) := by
  have s : ∀ x : Int32, -1000 ≤ x.toInt ∧ x.toInt ≤ 1000 → (-x).toInt = -x.toInt := fun x hx => by
    rw [Int32.toInt_neg]
    exact Int.bmod_eq_of_le (by omega) (by omega)
  rw [Int32.lt_iff_toInt_lt, Int32.lt_iff_toInt_lt, s a ha, s b hb]
  exact propext ⟨fun h => by omega, fun h => by omega⟩
theorem k_upd_gd (hA : ∀ j, j < k_m K → k_gd K (A j)) {g : Nat} (hg : g < k_g K) : ∀ j, j < k_m K → k_gd K (upd A i (nI g) j) := fun j hj => by
  by_cases q : j = i
  · rw [q, k_upd_s]; exact k_gd_na hg
  · rw [k_upd_n q]; exact hA j hj
theorem k_ks_b (hw : k_wf K) (hA : ∀ j, j < k_m K → k_gd K (A j)) (hi : i < k_m K) {kd : Bool} : ∀ n, n ≤ k_g K → -1000 ≤ (k_ks K A i kd n).2.toInt ∧ (k_ks K A i kd n).2.toInt ≤ 1000
  | 0, _ => by
    show -1000 ≤ (nI 0).toInt ∧ (nI 0).toInt ≤ 1000
    decide +kernel
  | n + 1, h => by
    have ih := k_ks_b hw hA hi (kd := kd) n (by omega)
    have f := k_otb hw (k_upd_gd (i := i) hA (show n < k_g K by omega)) hi
    unfold k_ks
    split
    · split
      · exact f
      · split
        · exact f
        · exact ih
    · exact ih
/-- the row is laid, and falls -/
theorem c_fr (h : c_rl M 12 K) (hA : ∀ j, j < k_m K → ir_I M 117 (3 + j) = A j) : ∃ M', m_X0_fallBy (d + 3) 116 4 12 (nI (k_y K)) M = ir_oV M' ∧ q_eq [117, 118] M M' ∧ (∀ j, j < k_m K → ir_I M' 117 (3 + j) = A j) ∧ ∀ j, j < k_m K → ir_I M' 118 j = k_fr K A j := by
  have hb := k_bds h.2.2.1
  obtain ⟨M1, e1, q1, a1, f1⟩ := c_fb (d := d) (A := A) h hb.2.2.2.2.1 hb.2.2.2.2.2 hA
  exact ⟨M1, e1, q1, fun j hj => (a1 _ (by omega)).trans (hA j hj), f1⟩
theorem c_ka (h : c_rl M 12 K) (hw : k_wf K) (hA : ∀ j, j < k_m K → ir_I M 117 (3 + j) = A j) (hg : ∀ j, j < k_m K → k_gd K (A j)) (hc : ∀ j, j < k_m K → ir_I M 119 j = nI (k_ch K j (k_g K))) (hi : i < k_m K) (kd : Bool) : ∃ M', m_X11_kindAt (d + 4) 1 (nI i) (if kd = true then 1 else 0) M = ir_oI (k_on (k_ks K A i kd (k_g K)).1) M' ∧ q_eq [117, 118] M M' ∧ ∀ j, j < k_m K → ir_I M' 117 (3 + j) = A j := by
  have hk := h.2.2.1
  have hb := k_bds hk
  have L := q_up (σ := ir_M) (V := fun x t => v_X11_kindAt_21 (d + 3) 1 (nI i) (if kd = true then 1 else 0) (A i) (k_on (k_ks K A i kd x).1) (if kd = true then (k_ks K A i kd x).2 else -(k_ks K A i kd x).2) (nI x) t) (N := k_g K) (I := fun _ t => q_eq [117, 118] M t ∧ ∀ j, j < k_m K → j ≠ i → ir_I t 117 (3 + j) = A j) (K := fun t => ir_oI (k_on (k_ks K A i kd (k_g K)).1) (ir_sI t 117 (3 + i) (A i))) (by
    rintro x t hx ⟨hq, ht⟩
    have ct := c_rl_eq h hq (by decide)
    have ci : ir_I t 119 i = nI (k_ch K i (k_g K)) := by rw [q_I_eq hq (by decide)]; exact hc i hi
    have ma := c_ma (d := d + 2) ct.1 hk hi ci hx
    have hlt := @k_ks_lt K A i kd x
    have hbs := k_ks_b hw hg hi (kd := kd) x (by omega)
    obtain ⟨s, es⟩ : ∃ s, s = k_ks K A i kd x := ⟨_, rfl⟩
    have e1 : k_ks K A i kd (x + 1) = if k_al K (k_q K i) (nI x) (nI i) = true then (match s.1 with | none => (some x, k_ot K (upd A i (nI x)) i) | some _ => if k_bt kd s.2 (k_ot K (upd A i (nI x)) i) = true then (some x, k_ot K (upd A i (nI x)) i) else s) else s := by rw [es]; rfl
    rw [e1]
    rw [← es] at hlt hbs ⊢
    cases ea : k_al K (k_q K i) (nI x) (nI i)
    · rw [ea] at ma
      refine ⟨t, ⟨hq, ht⟩, ?_⟩
      rw [L_X11_kindAt_21]
      simp (disch := omega) only [q_ckt, q_lt, q_cI, q_cJ, q_cV, q_cP, q_xI, q_xV, q_xP, q_xJ, g_gk, g_ga, g_gw, g_gp, g_gq, g_P, g_J, q_I_s, q_I_n, q_I_k, nI_add, pk_sub, pk_mul, nI_clamp, n_lt0, n_0lt, n_eq0, n_lt, n_le, n_eq, n_m1, n_m2, n_m9, n_12, n_19, n_10, n_01, n_1n1, n_0n1, n_1n0, n_0n0, n_dI, n_m1lt, q_inb, n_nar, n_nar0, n_nar1, n_bool, Bool.false_eq_true, Bool.true_eq_false, if_true, if_false, ↓reduceIte, Nat.reduceAdd, Nat.reduceMul, Nat.reduceSub, Nat.reduceLT, Nat.reduceLeDiff, Nat.reduceEqDiff, Nat.reduceMod, Nat.reduceDiv, q_W ct.1, q_T ct.1, c_use ct, hx, q_F ct.1, ma]
    · rw [ea] at ma
      obtain ⟨t1, et1⟩ : ∃ N, N = ir_sI t 117 (3 + i) (nI x) := ⟨_, rfl⟩
      have q1 : q_eq [117, 118] t t1 := by rw [et1]; exact q_eq.sI (by decide)
      have ct1 := c_rl_eq ct q1 (by decide)
      have r1 : ∀ j, j < k_m K → ir_I t1 117 (3 + j) = upd A i (nI x) j := fun j hj => by
        rw [et1, q_I_u]
        by_cases q : j = i
        · rw [if_pos (by omega), q, k_upd_s]
        · rw [if_neg (by omega), k_upd_n q]
          exact ht j hj q
      obtain ⟨t2, e2, q2, r2, f2⟩ := c_fr (d := d) ct1 r1
      have ct2 := c_rl_eq ct1 q2 (by decide)
      have gd2 := fun j (hj : j < k_m K) => k_fr_gd hk (k_upd_gd (i := i) hg hx) hj
      have wo := c_woa (d := d) ct2 f2 gd2
      have wa := c_wa (d := d + 1) ct2 hi (f2 i hi) (gd2 i hi)
      have fb := k_otb hw (k_upd_gd (i := i) hg hx) hi
      refine ⟨t2, ⟨(hq.tr q1).tr q2, fun j hj hji => by rw [r2 j hj, k_upd_n hji]⟩, ?_⟩
      have pre : v_X11_kindAt_21 (d + 3) 1 (nI i) (if kd = true then 1 else 0) (A i) (k_on s.1) (if kd = true then s.2 else -s.2) (nI x) t = v_X11_kindAt_127 (d + 3) 1 (nI i) (if kd = true then 1 else 0) (A i) (k_on s.1) (if kd = true then s.2 else -s.2) (nI x) (if kd = true then k_ot K (upd A i (nI x)) i else -(k_ot K (upd A i (nI x)) i)) t2 := by
        rw [L_X11_kindAt_21]
        simp (disch := omega) only [q_ckt, q_lt, q_cI, q_cJ, q_cV, q_cP, q_xI, q_xV, q_xP, q_xJ, g_gk, g_ga, g_gw, g_gp, g_gq, g_P, g_J, q_I_s, q_I_n, q_I_k, nI_add, pk_sub, pk_mul, nI_clamp, n_lt0, n_0lt, n_eq0, n_lt, n_le, n_eq, n_m1, n_m2, n_m9, n_12, n_19, n_10, n_01, n_1n1, n_0n1, n_1n0, n_0n0, n_dI, n_m1lt, q_inb, n_nar, n_nar0, n_nar1, n_bool, Bool.false_eq_true, Bool.true_eq_false, if_true, if_false, ↓reduceIte, Nat.reduceAdd, Nat.reduceMul, Nat.reduceSub, Nat.reduceLT, Nat.reduceLeDiff, Nat.reduceEqDiff, Nat.reduceMod, Nat.reduceDiv, q_W ct.1, q_T ct.1, c_use ct, hx, q_F ct.1, ma]
        rw [← et1]
        simp (disch := omega) only [q_ckt, q_lt, q_cI, q_cJ, q_cV, q_cP, q_xI, q_xV, q_xP, q_xJ, g_gk, g_ga, g_gw, g_gp, g_gq, g_P, g_J, q_I_s, q_I_n, q_I_k, nI_add, pk_sub, pk_mul, nI_clamp, n_lt0, n_0lt, n_eq0, n_lt, n_le, n_eq, n_m1, n_m2, n_m9, n_12, n_19, n_10, n_01, n_1n1, n_0n1, n_1n0, n_0n0, n_dI, n_m1lt, q_inb, n_nar, n_nar0, n_nar1, n_bool, Bool.false_eq_true, Bool.true_eq_false, if_true, if_false, ↓reduceIte, Nat.reduceAdd, Nat.reduceMul, Nat.reduceSub, Nat.reduceLT, Nat.reduceLeDiff, Nat.reduceEqDiff, Nat.reduceMod, Nat.reduceDiv, q_W ct1.1, q_T ct1.1, q_F ct1.1, c_use ct1, e2, q_W ct2.1, q_F ct2.1, wo, wa]
        cases kd
        · simp (disch := omega) only [q_ckt, q_lt, q_cI, q_cJ, q_cV, q_cP, q_xI, q_xV, q_xP, q_xJ, g_gk, g_ga, g_gw, g_gp, g_gq, g_P, g_J, q_I_s, q_I_n, q_I_k, nI_add, pk_sub, pk_mul, nI_clamp, n_lt0, n_0lt, n_eq0, n_lt, n_le, n_eq, n_m1, n_m2, n_m9, n_12, n_19, n_10, n_01, n_1n1, n_0n1, n_1n0, n_0n0, n_dI, n_m1lt, q_inb, n_nar, n_nar0, n_nar1, n_bool, Bool.false_eq_true, Bool.true_eq_false, if_true, if_false, ↓reduceIte, Nat.reduceAdd, Nat.reduceMul, Nat.reduceSub, Nat.reduceLT, Nat.reduceLeDiff, Nat.reduceEqDiff, Nat.reduceMod, Nat.reduceDiv]
          rfl
        · simp (disch := omega) only [q_ckt, q_lt, q_cI, q_cJ, q_cV, q_cP, q_xI, q_xV, q_xP, q_xJ, g_gk, g_ga, g_gw, g_gp, g_gq, g_P, g_J, q_I_s, q_I_n, q_I_k, nI_add, pk_sub, pk_mul, nI_clamp, n_lt0, n_0lt, n_eq0, n_lt, n_le, n_eq, n_m1, n_m2, n_m9, n_12, n_19, n_10, n_01, n_1n1, n_0n1, n_1n0, n_0n0, n_dI, n_m1lt, q_inb, n_nar, n_nar0, n_nar1, n_bool, Bool.false_eq_true, Bool.true_eq_false, if_true, if_false, ↓reduceIte, Nat.reduceAdd, Nat.reduceMul, Nat.reduceSub, Nat.reduceLT, Nat.reduceLeDiff, Nat.reduceEqDiff, Nat.reduceMod, Nat.reduceDiv]
          rfl
      rw [pre, L_X11_kindAt_127]
      cases es1 : s.1 with
      | none => simp (disch := omega) only [q_ckt, q_lt, q_cI, q_cJ, q_cV, q_cP, q_xI, q_xV, q_xP, q_xJ, g_gk, g_ga, g_gw, g_gp, g_gq, g_P, g_J, q_I_s, q_I_n, q_I_k, nI_add, pk_sub, pk_mul, nI_clamp, n_lt0, n_0lt, n_eq0, n_lt, n_le, n_eq, n_m1, n_m2, n_m9, n_12, n_19, n_10, n_01, n_1n1, n_0n1, n_1n0, n_0n0, n_dI, n_m1lt, q_inb, n_nar, n_nar0, n_nar1, n_bool, Bool.false_eq_true, Bool.true_eq_false, if_true, if_false, ↓reduceIte, Nat.reduceAdd, Nat.reduceMul, Nat.reduceSub, Nat.reduceLT, Nat.reduceLeDiff, Nat.reduceEqDiff, Nat.reduceMod, Nat.reduceDiv, k_on]
      | some z =>
        have := (hlt es1).1
        have ebt : k_bt kd s.2 (k_ot K (upd A i (nI x)) i) = decide ((if kd = true then s.2 else -s.2) < (if kd = true then k_ot K (upd A i (nI x)) i else -(k_ot K (upd A i (nI x)) i))) := by
          unfold k_bt
          cases kd
          · rw [if_neg (by decide), if_neg (by decide), if_neg (by decide)]
            simp only [k_neg3 hbs fb]
          · rw [if_pos rfl, if_pos rfl, if_pos rfl]
        simp (disch := omega) only [q_ckt, q_lt, q_cI, q_cJ, q_cV, q_cP, q_xI, q_xV, q_xP, q_xJ, g_gk, g_ga, g_gw, g_gp, g_gq, g_P, g_J, q_I_s, q_I_n, q_I_k, nI_add, pk_sub, pk_mul, nI_clamp, n_lt0, n_0lt, n_eq0, n_lt, n_le, n_eq, n_m1, n_m2, n_m9, n_12, n_19, n_10, n_01, n_1n1, n_0n1, n_1n0, n_0n0, n_dI, n_m1lt, q_inb, n_nar, n_nar0, n_nar1, n_bool, Bool.false_eq_true, Bool.true_eq_false, if_true, if_false, ↓reduceIte, Nat.reduceAdd, Nat.reduceMul, Nat.reduceSub, Nat.reduceLT, Nat.reduceLeDiff, Nat.reduceEqDiff, Nat.reduceMod, Nat.reduceDiv, k_on]
        by_cases qc : (if kd = true then s.2 else -s.2) < (if kd = true then k_ot K (upd A i (nI x)) i else -(k_ot K (upd A i (nI x)) i))
        · rw [if_pos qc]
          rw [decide_eq_true qc] at ebt
          simp (disch := omega) only [q_ckt, q_lt, q_cI, q_cJ, q_cV, q_cP, q_xI, q_xV, q_xP, q_xJ, g_gk, g_ga, g_gw, g_gp, g_gq, g_P, g_J, q_I_s, q_I_n, q_I_k, nI_add, pk_sub, pk_mul, nI_clamp, n_lt0, n_0lt, n_eq0, n_lt, n_le, n_eq, n_m1, n_m2, n_m9, n_12, n_19, n_10, n_01, n_1n1, n_0n1, n_1n0, n_0n0, n_dI, n_m1lt, q_inb, n_nar, n_nar0, n_nar1, n_bool, Bool.false_eq_true, Bool.true_eq_false, if_true, if_false, ↓reduceIte, Nat.reduceAdd, Nat.reduceMul, Nat.reduceSub, Nat.reduceLT, Nat.reduceLeDiff, Nat.reduceEqDiff, Nat.reduceMod, Nat.reduceDiv, ebt, k_on]
        · rw [if_neg qc]
          rw [decide_eq_false qc] at ebt
          simp (disch := omega) only [q_ckt, q_lt, q_cI, q_cJ, q_cV, q_cP, q_xI, q_xV, q_xP, q_xJ, g_gk, g_ga, g_gw, g_gp, g_gq, g_P, g_J, q_I_s, q_I_n, q_I_k, nI_add, pk_sub, pk_mul, nI_clamp, n_lt0, n_0lt, n_eq0, n_lt, n_le, n_eq, n_m1, n_m2, n_m9, n_12, n_19, n_10, n_01, n_1n1, n_0n1, n_1n0, n_0n0, n_dI, n_m1lt, q_inb, n_nar, n_nar0, n_nar1, n_bool, Bool.false_eq_true, Bool.true_eq_false, if_true, if_false, ↓reduceIte, Nat.reduceAdd, Nat.reduceMul, Nat.reduceSub, Nat.reduceLT, Nat.reduceLeDiff, Nat.reduceEqDiff, Nat.reduceMod, Nat.reduceDiv, ebt, es1, k_on]) (by
    rintro t ⟨hq, ht⟩
    have ct := c_rl_eq h hq (by decide)
    rw [L_X11_kindAt_21]
    simp (disch := omega) only [q_ckt, q_lt, q_cI, q_cJ, q_cV, q_cP, q_xI, q_xV, q_xP, q_xJ, g_gk, g_ga, g_gw, g_gp, g_gq, g_P, g_J, q_I_s, q_I_n, q_I_k, nI_add, pk_sub, pk_mul, nI_clamp, n_lt0, n_0lt, n_eq0, n_lt, n_le, n_eq, n_m1, n_m2, n_m9, n_12, n_19, n_10, n_01, n_1n1, n_0n1, n_1n0, n_0n0, n_dI, n_m1lt, q_inb, n_nar, n_nar0, n_nar1, n_bool, Bool.false_eq_true, Bool.true_eq_false, if_true, if_false, ↓reduceIte, Nat.reduceAdd, Nat.reduceMul, Nat.reduceSub, Nat.reduceLT, Nat.reduceLeDiff, Nat.reduceEqDiff, Nat.reduceMod, Nat.reduceDiv, q_W ct.1, q_T ct.1, c_use ct, Nat.lt_irrefl, q_F ct.1]) (i := 0) (t := M) (by omega) ⟨q_eq.rf _ _, fun j hj _ => hA j hj⟩
  obtain ⟨t, ⟨hq, ht⟩, ee⟩ := L
  refine ⟨ir_sI t 117 (3 + i) (A i), ?_, hq.tr (q_eq.sI (by decide)), fun j hj => ?_⟩
  · rw [E_X11_kindAt]
    simp (disch := omega) only [q_ckt, q_lt, q_cI, q_cJ, q_cV, q_cP, q_xI, q_xV, q_xP, q_xJ, g_gk, g_ga, g_gw, g_gp, g_gq, g_P, g_J, q_I_s, q_I_n, q_I_k, nI_add, pk_sub, pk_mul, nI_clamp, n_lt0, n_0lt, n_eq0, n_lt, n_le, n_eq, n_m1, n_m2, n_m9, n_12, n_19, n_10, n_01, n_1n1, n_0n1, n_1n0, n_0n0, n_dI, n_m1lt, q_inb, n_nar, n_nar0, n_nar1, n_bool, Bool.false_eq_true, Bool.true_eq_false, if_true, if_false, ↓reduceIte, Nat.reduceAdd, Nat.reduceMul, Nat.reduceSub, Nat.reduceLT, Nat.reduceLeDiff, Nat.reduceEqDiff, Nat.reduceMod, Nat.reduceDiv, q_W h.1, q_F h.1, hA i hi]
    refine Eq.trans ?_ ee
    cases kd
    · show _ = v_X11_kindAt_21 (d + 3) 1 (nI i) _ (A i) (-1) (-(nI 0)) (nI 0) M
      rw [show -(nI 0) = nI 0 by decide +kernel]
    · rfl
  · rw [q_I_u]
    by_cases q : j = i
    · rw [if_pos (by omega), q]
    · rw [if_neg (by omega)]
      exact ht j hj q
/-- liked by a row -/
theorem c_lb (h : c_rl M 12 K) (hg : ∀ j, j < k_m K → k_gd K (A j)) {v : Int32} (hA : ∀ j, j < k_m K → j ≠ i → ir_I M 117 (3 + j) = A j) (hv : A i = v) (hi : i < k_m K) : ∃ M', m_X11_likingBy (d + 4) 1 (nI i) v M = ir_oI (k_kl K A i) M' ∧ q_eq [117, 118] M M' ∧ ∀ j, j < k_m K → ir_I M' 117 (3 + j) = A j := by
  have hb := k_bds h.2.2.1
  obtain ⟨t1, et1⟩ : ∃ N, N = ir_sI M 117 (3 + i) v := ⟨_, rfl⟩
  have q1 : q_eq [117, 118] M t1 := by rw [et1]; exact q_eq.sI (by decide)
  have ct1 := c_rl_eq h q1 (by decide)
  have r1 : ∀ j, j < k_m K → ir_I t1 117 (3 + j) = A j := fun j hj => by
    rw [et1, q_I_u]
    by_cases q : j = i
    · rw [if_pos (by omega), q, hv]
    · rw [if_neg (by omega)]
      exact hA j hj q
  obtain ⟨t2, e2, q2, r2, f2⟩ := c_fr (d := d) ct1 r1
  have ct2 := c_rl_eq ct1 q2 (by decide)
  have li := c_li (d := d) ct2 hi f2 (fun j hj => k_fr_gd h.2.2.1 hg hj)
  refine ⟨t2, ?_, q1.tr q2, r2⟩
  rw [E_X11_likingBy]
  simp (disch := omega) only [q_ckt, q_lt, q_cI, q_cJ, q_cV, q_cP, q_xI, q_xV, q_xP, q_xJ, g_gk, g_ga, g_gw, g_gp, g_gq, g_P, g_J, q_I_s, q_I_n, q_I_k, nI_add, pk_sub, pk_mul, nI_clamp, n_lt0, n_0lt, n_eq0, n_lt, n_le, n_eq, n_m1, n_m2, n_m9, n_12, n_19, n_10, n_01, n_1n1, n_0n1, n_1n0, n_0n0, n_dI, n_m1lt, q_inb, n_nar, n_nar0, n_nar1, n_bool, Bool.false_eq_true, Bool.true_eq_false, if_true, if_false, ↓reduceIte, Nat.reduceAdd, Nat.reduceMul, Nat.reduceSub, Nat.reduceLT, Nat.reduceLeDiff, Nat.reduceEqDiff, Nat.reduceMod, Nat.reduceDiv, q_W h.1, q_T h.1, c_use h, q_F h.1]
  rw [← et1]
  simp (disch := omega) only [q_ckt, q_lt, q_cI, q_cJ, q_cV, q_cP, q_xI, q_xV, q_xP, q_xJ, g_gk, g_ga, g_gw, g_gp, g_gq, g_P, g_J, q_I_s, q_I_n, q_I_k, nI_add, pk_sub, pk_mul, nI_clamp, n_lt0, n_0lt, n_eq0, n_lt, n_le, n_eq, n_m1, n_m2, n_m9, n_12, n_19, n_10, n_01, n_1n1, n_0n1, n_1n0, n_0n0, n_dI, n_m1lt, q_inb, n_nar, n_nar0, n_nar1, n_bool, Bool.false_eq_true, Bool.true_eq_false, if_true, if_false, ↓reduceIte, Nat.reduceAdd, Nat.reduceMul, Nat.reduceSub, Nat.reduceLT, Nat.reduceLeDiff, Nat.reduceEqDiff, Nat.reduceMod, Nat.reduceDiv, q_W ct1.1, q_T ct1.1, q_F ct1.1, c_use ct1, e2, q_W ct2.1, q_F ct2.1, li]
  rfl
theorem c_lm (h : c_rl M 12 K) (hA : ∀ j, j < k_m K → ir_I M 117 (3 + j) = A j) (hg : ∀ j, j < k_m K → k_gd K (A j)) (hc : ∀ j, j < k_m K → ir_I M 119 j = nI (k_ch K j (k_g K))) (hi : i < k_m K) : ∃ M', m_X11_likedMore (d + 5) 1 (nI i) M = ir_oI (k_on (k_bs K A i (k_g K)).1) M' ∧ q_eq [117, 118] M M' ∧ ∀ j, j < k_m K → ir_I M' 117 (3 + j) = A j := by
  have hk := h.2.2.1
  have hb := k_bds hk
  obtain ⟨M1, e1, q1, r1⟩ := c_lb (d := d) h hg (fun j hj _ => hA j hj) rfl hi
  have L := q_up (σ := ir_M) (V := fun x t => v_X11_likedMore_25 (d + 4) 1 (nI i) (A i) (k_bs K A i x).2 (k_on (k_bs K A i x).1) (nI x) t) (N := k_g K) (I := fun _ t => q_eq [117, 118] M t ∧ ∀ j, j < k_m K → j ≠ i → ir_I t 117 (3 + j) = A j) (K := fun t => ir_oI (k_on (k_bs K A i (k_g K)).1) (ir_sI t 117 (3 + i) (A i))) (by
    rintro x t hx ⟨hq, ht⟩
    have ct := c_rl_eq h hq (by decide)
    have ci : ir_I t 119 i = nI (k_ch K i (k_g K)) := by rw [q_I_eq hq (by decide)]; exact hc i hi
    have ma := c_ma (d := d + 3) ct.1 hk hi ci hx
    rw [show k_bs K A i (x + 1) = if k_al K (k_q K i) (nI x) (nI i) = true then (if (k_bs K A i x).2 < k_kl K (upd A i (nI x)) i then (some x, k_kl K (upd A i (nI x)) i) else k_bs K A i x) else k_bs K A i x from rfl]
    cases ea : k_al K (k_q K i) (nI x) (nI i)
    · rw [ea] at ma
      refine ⟨t, ⟨hq, ht⟩, ?_⟩
      rw [L_X11_likedMore_25]
      simp (disch := omega) only [q_ckt, q_lt, q_cI, q_cJ, q_cV, q_cP, q_xI, q_xV, q_xP, q_xJ, g_gk, g_ga, g_gw, g_gp, g_gq, g_P, g_J, q_I_s, q_I_n, q_I_k, nI_add, pk_sub, pk_mul, nI_clamp, n_lt0, n_0lt, n_eq0, n_lt, n_le, n_eq, n_m1, n_m2, n_m9, n_12, n_19, n_10, n_01, n_1n1, n_0n1, n_1n0, n_0n0, n_dI, n_m1lt, q_inb, n_nar, n_nar0, n_nar1, n_bool, Bool.false_eq_true, Bool.true_eq_false, if_true, if_false, ↓reduceIte, Nat.reduceAdd, Nat.reduceMul, Nat.reduceSub, Nat.reduceLT, Nat.reduceLeDiff, Nat.reduceEqDiff, Nat.reduceMod, Nat.reduceDiv, q_W ct.1, q_T ct.1, c_use ct, hx, q_F ct.1, ma]
    · rw [ea] at ma
      obtain ⟨t2, e2, q2, r2⟩ := c_lb (d := d) (A := upd A i (nI x)) ct (k_upd_gd (i := i) hg hx) (fun j hj hji => by rw [k_upd_n hji]; exact ht j hj hji) k_upd_s hi
      refine ⟨t2, ⟨hq.tr q2, fun j hj hji => by rw [r2 j hj, k_upd_n hji]⟩, ?_⟩
      rw [L_X11_likedMore_25]
      simp (disch := omega) only [q_ckt, q_lt, q_cI, q_cJ, q_cV, q_cP, q_xI, q_xV, q_xP, q_xJ, g_gk, g_ga, g_gw, g_gp, g_gq, g_P, g_J, q_I_s, q_I_n, q_I_k, nI_add, pk_sub, pk_mul, nI_clamp, n_lt0, n_0lt, n_eq0, n_lt, n_le, n_eq, n_m1, n_m2, n_m9, n_12, n_19, n_10, n_01, n_1n1, n_0n1, n_1n0, n_0n0, n_dI, n_m1lt, q_inb, n_nar, n_nar0, n_nar1, n_bool, Bool.false_eq_true, Bool.true_eq_false, if_true, if_false, ↓reduceIte, Nat.reduceAdd, Nat.reduceMul, Nat.reduceSub, Nat.reduceLT, Nat.reduceLeDiff, Nat.reduceEqDiff, Nat.reduceMod, Nat.reduceDiv, q_W ct.1, q_T ct.1, c_use ct, hx, q_F ct.1, ma, e2]
      by_cases qc : (k_bs K A i x).2 < k_kl K (upd A i (nI x)) i
      · rw [if_pos qc, if_pos qc]
        rfl
      · rw [if_neg qc, if_neg qc]) (by
    rintro t ⟨hq, ht⟩
    have ct := c_rl_eq h hq (by decide)
    rw [L_X11_likedMore_25]
    simp (disch := omega) only [q_ckt, q_lt, q_cI, q_cJ, q_cV, q_cP, q_xI, q_xV, q_xP, q_xJ, g_gk, g_ga, g_gw, g_gp, g_gq, g_P, g_J, q_I_s, q_I_n, q_I_k, nI_add, pk_sub, pk_mul, nI_clamp, n_lt0, n_0lt, n_eq0, n_lt, n_le, n_eq, n_m1, n_m2, n_m9, n_12, n_19, n_10, n_01, n_1n1, n_0n1, n_1n0, n_0n0, n_dI, n_m1lt, q_inb, n_nar, n_nar0, n_nar1, n_bool, Bool.false_eq_true, Bool.true_eq_false, if_true, if_false, ↓reduceIte, Nat.reduceAdd, Nat.reduceMul, Nat.reduceSub, Nat.reduceLT, Nat.reduceLeDiff, Nat.reduceEqDiff, Nat.reduceMod, Nat.reduceDiv, q_W ct.1, q_T ct.1, c_use ct, Nat.lt_irrefl, q_F ct.1]) (i := 0) (t := M1) (by omega) ⟨q1, fun j hj _ => r1 j hj⟩
  obtain ⟨t, ⟨hq, ht⟩, ee⟩ := L
  refine ⟨ir_sI t 117 (3 + i) (A i), ?_, hq.tr (q_eq.sI (by decide)), fun j hj => ?_⟩
  · rw [E_X11_likedMore]
    simp (disch := omega) only [q_ckt, q_lt, q_cI, q_cJ, q_cV, q_cP, q_xI, q_xV, q_xP, q_xJ, g_gk, g_ga, g_gw, g_gp, g_gq, g_P, g_J, q_I_s, q_I_n, q_I_k, nI_add, pk_sub, pk_mul, nI_clamp, n_lt0, n_0lt, n_eq0, n_lt, n_le, n_eq, n_m1, n_m2, n_m9, n_12, n_19, n_10, n_01, n_1n1, n_0n1, n_1n0, n_0n0, n_dI, n_m1lt, q_inb, n_nar, n_nar0, n_nar1, n_bool, Bool.false_eq_true, Bool.true_eq_false, if_true, if_false, ↓reduceIte, Nat.reduceAdd, Nat.reduceMul, Nat.reduceSub, Nat.reduceLT, Nat.reduceLeDiff, Nat.reduceEqDiff, Nat.reduceMod, Nat.reduceDiv, q_W h.1, q_F h.1, hA i hi, e1]
    exact ee
  · rw [q_I_u]
    by_cases q : j = i
    · rw [if_pos (by omega), q]
    · rw [if_neg (by omega)]
      exact ht j hj q
/-! the reference -/
def k_sx (f : Nat → Int32) (i : Nat) : Nat → Int32
  | 0 => 0
  | x + 1 => if x = i then k_sx f i x else k_sx f i x + f x
theorem k_sx_e {f : Nat → Int32} {i : Nat} : ∀ x, k_sx f i x = if i < x then k_sm f x - f i else k_sm f x
  | 0 => by rw [if_neg (by omega)]; rfl
  | x + 1 => by
    unfold k_sx k_sm
    rw [k_sx_e x]
    by_cases q : x = i
    · rw [if_pos q, if_neg (by omega), if_pos (by omega), q, Int32.add_sub_cancel]
    · rw [if_neg q]
      by_cases q2 : i < x
      · rw [if_pos q2, if_pos (by omega), Int32.sub_eq_add_neg, Int32.sub_eq_add_neg, Int32.add_assoc, Int32.add_assoc, Int32.add_comm (-f i)]
      · rw [if_neg q2, if_neg (by omega)]
theorem r_fto (h : r_rl M K) (hi : i < k_m K) : ∃ M', m_X12_fallsToOthers (d + 7) 412 (nI (k_q K i)) M = ir_oI (k_sm (k_fw K (k_td K)) (k_m K) - k_fw K (k_td K) i) M' ∧ q_eq [418, 419, 420] M M' := by
  have hb := k_bds h.2.1
  obtain ⟨M1, e1, q1, a1, f1⟩ := r_laysToday (d := d) h
  have u1 := r_rl_eq h q1 (by decide)
  have L := q_up (σ := ir_M) (V := fun x t => v_X12_fallsToOthers_8 (d + 6) 412 (nI (k_q K i)) (k_sx (k_fw K (k_td K)) i x) (nI x) t) (N := k_m K) (I := fun _ t => t = M1) (K := fun t => ir_oI (k_sx (k_fw K (k_td K)) i (k_m K)) t) (by
    rintro x t hx rfl
    refine ⟨t, rfl, ?_⟩
    have hqi := k_qn h.2.1 hi
    have hqx := k_qn h.2.1 hx
    have fe := r_fellTo (d := d + 4) u1 hx (f1 x hx) (k_td_gd h.2.1 hx)
    rw [show k_sx (k_fw K (k_td K)) i (x + 1) = if x = i then k_sx (k_fw K (k_td K)) i x else k_sx (k_fw K (k_td K)) i x + k_fw K (k_td K) x from rfl, L_X12_fallsToOthers_8]
    by_cases q : x = i
    · rw [if_pos q]
      simp (disch := omega) only [q_ckt, q_lt, q_cI, q_cJ, q_cV, q_cP, q_xI, q_xV, q_xP, q_xJ, g_gk, g_ga, g_gw, g_gp, g_gq, g_P, g_J, q_I_s, q_I_n, q_I_k, nI_add, pk_sub, pk_mul, nI_clamp, n_lt0, n_0lt, n_eq0, n_lt, n_le, n_eq, n_m1, n_m2, n_m9, n_12, n_19, n_10, n_01, n_1n1, n_0n1, n_1n0, n_0n0, n_dI, n_m1lt, q_inb, n_nar, n_nar0, n_nar1, n_bool, Bool.false_eq_true, Bool.true_eq_false, if_true, if_false, ↓reduceIte, Nat.reduceAdd, Nat.reduceMul, Nat.reduceSub, Nat.reduceLT, Nat.reduceLeDiff, Nat.reduceEqDiff, Nat.reduceMod, Nat.reduceDiv, q_R u1.1, r_qd u1, hx, r_wh u1 hx, q, hi, r_wh u1 hi]
      rw [n_00, Int32.add_zero]
    · rw [if_neg q]
      have : ¬ k_q K x = k_q K i := fun w => q (h.2.1.2.2.2.2.2.1 x i hx hi w)
      simp (disch := omega) only [q_ckt, q_lt, q_cI, q_cJ, q_cV, q_cP, q_xI, q_xV, q_xP, q_xJ, g_gk, g_ga, g_gw, g_gp, g_gq, g_P, g_J, q_I_s, q_I_n, q_I_k, nI_add, pk_sub, pk_mul, nI_clamp, n_lt0, n_0lt, n_eq0, n_lt, n_le, n_eq, n_m1, n_m2, n_m9, n_12, n_19, n_10, n_01, n_1n1, n_0n1, n_1n0, n_0n0, n_dI, n_m1lt, q_inb, n_nar, n_nar0, n_nar1, n_bool, Bool.false_eq_true, Bool.true_eq_false, if_true, if_false, ↓reduceIte, Nat.reduceAdd, Nat.reduceMul, Nat.reduceSub, Nat.reduceLT, Nat.reduceLeDiff, Nat.reduceEqDiff, Nat.reduceMod, Nat.reduceDiv, q_R u1.1, r_qd u1, hx, r_wh u1 hx, this, fe]) (by
    rintro t rfl
    rw [L_X12_fallsToOthers_8]
    simp (disch := omega) only [q_ckt, q_lt, q_cI, q_cJ, q_cV, q_cP, q_xI, q_xV, q_xP, q_xJ, g_gk, g_ga, g_gw, g_gp, g_gq, g_P, g_J, q_I_s, q_I_n, q_I_k, nI_add, pk_sub, pk_mul, nI_clamp, n_lt0, n_0lt, n_eq0, n_lt, n_le, n_eq, n_m1, n_m2, n_m9, n_12, n_19, n_10, n_01, n_1n1, n_0n1, n_1n0, n_0n0, n_dI, n_m1lt, q_inb, n_nar, n_nar0, n_nar1, n_bool, Bool.false_eq_true, Bool.true_eq_false, if_true, if_false, ↓reduceIte, Nat.reduceAdd, Nat.reduceMul, Nat.reduceSub, Nat.reduceLT, Nat.reduceLeDiff, Nat.reduceEqDiff, Nat.reduceMod, Nat.reduceDiv, q_R u1.1, r_qd u1, Nat.lt_irrefl]) (i := 0) (t := M1) (by omega) rfl
  obtain ⟨t, rfl, ee⟩ := L
  refine ⟨t, ?_, q1⟩
  rw [E_X12_fallsToOthers]
  simp (disch := omega) only [q_ckt, q_lt, q_cI, q_cJ, q_cV, q_cP, q_xI, q_xV, q_xP, q_xJ, g_gk, g_ga, g_gw, g_gp, g_gq, g_P, g_J, q_I_s, q_I_n, q_I_k, nI_add, pk_sub, pk_mul, nI_clamp, n_lt0, n_0lt, n_eq0, n_lt, n_le, n_eq, n_m1, n_m2, n_m9, n_12, n_19, n_10, n_01, n_1n1, n_0n1, n_1n0, n_0n0, n_dI, n_m1lt, q_inb, n_nar, n_nar0, n_nar1, n_bool, Bool.false_eq_true, Bool.true_eq_false, if_true, if_false, ↓reduceIte, Nat.reduceAdd, Nat.reduceMul, Nat.reduceSub, Nat.reduceLT, Nat.reduceLeDiff, Nat.reduceEqDiff, Nat.reduceMod, Nat.reduceDiv, q_R h.1, e1]
  refine ee.trans ?_
  rw [k_sx_e, if_pos hi]
/-- one asks otherwise: what falls, and is liked -/
theorem k_ot_u (hk : k_ok K) (hi : i < k_m K) {g : Nat} (hg : g < k_g K) (ha : k_al K (k_q K i) (nI g) (nI i) = true) : ∀ j, j < k_m K → k_td (upd K (18 + k_q K i) (nI g)) j = k_fr K (upd (k_as K) i (nI g)) j := fun j hj => by
  have hb := k_bds hk
  have hq := k_qn hk hi
  rw [k_td_fr (k_sa_u (by omega))]
  refine k_fr_cg (fun x hx => ?_) hj
  rw [k_as_u hk hi (by omega) hx]
  by_cases q : x = i
  · rw [if_pos q, if_pos ha, q, k_upd_s]
  · rw [if_neg q, k_upd_n q]
theorem k_ot_e (hk : k_ok K) (hi : i < k_m K) {g : Nat} (hg : g < k_g K) (ha : k_al K (k_q K i) (nI g) (nI i) = true) : k_sm (k_fw (upd K (18 + k_q K i) (nI g)) (k_td (upd K (18 + k_q K i) (nI g)))) (k_m (upd K (18 + k_q K i) (nI g))) - k_fw (upd K (18 + k_q K i) (nI g)) (k_td (upd K (18 + k_q K i) (nI g))) i = k_ot K (upd (k_as K) i (nI g)) i := by
  have hb := k_bds hk
  have hq := k_qn hk hi
  have sa : k_sa K (upd K (18 + k_q K i) (nI g)) := k_sa_u (by omega)
  have e : ∀ j, j < k_m K → k_fw (upd K (18 + k_q K i) (nI g)) (k_td (upd K (18 + k_q K i) (nI g))) j = k_fw K (k_fr K (upd (k_as K) i (nI g))) j := fun j hj => by
    rw [k_sa_fw sa (by omega)]
    unfold k_fw
    rw [k_ot_u hk hi hg ha j hj]
  rw [(k_sa_n sa).2.2.1, k_sm_cg _ e, e i hi]
  rfl
theorem k_kl_e (hk : k_ok K) (hi : i < k_m K) {g : Nat} (hg : g < k_g K) (ha : k_al K (k_q K i) (nI g) (nI i) = true) : k_li (upd K (18 + k_q K i) (nI g)) (k_td (upd K (18 + k_q K i) (nI g))) i = k_kl K (upd (k_as K) i (nI g)) i := by
  have hb := k_bds hk
  have hq := k_qn hk hi
  have sa : k_sa K (upd K (18 + k_q K i) (nI g)) := k_sa_u (by omega)
  rw [k_sa_li sa hk hi]
  unfold k_kl k_li
  refine k_sm_cg _ fun o ho => ?_
  unfold k_lk k_fw
  rw [k_ot_u hk hi hg ha o ho]
end KN
