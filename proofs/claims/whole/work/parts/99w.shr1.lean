/-! shares: rows of sets -/
def k_nk (K : Nat → Int32) (p : Nat) : Int32 := match k_pl K p with
  | some j => k_as K j
  | none => 0
def k_xr (K : Nat → Int32) (r : List Nat) (i : Nat) : Int32 := k_nk K (r.getD i 0)
def k_xt (K : Nat → Int32) (r : List Nat) (i : Nat) : Int32 := k_wt K (r.getD i 0) (k_fe K true 8 (k_xr K r) (k_y K) i)
def k_xs (K : Nat → Int32) (r : List Nat) : Int32 := k_sm (k_xt K r) r.length
/-- a row of a set -/
def k_ir (K : Nat → Int32) (S : Nat) (r : List Nat) : Prop := k_rw K r ∧ ∀ p, r.contains p = S.testBit p
def k_mxs (K : Nat → Int32) (S : Nat) (v : Int32) : Prop := (∃ r, k_ir K S r ∧ k_xs K r = v) ∧ ∀ r, k_ir K S r → (k_xs K r).toInt ≤ v.toInt
section SH
variable {K A B L : Nat → Int32} {r : List Nat}
theorem k_mxs_u {S : Nat} {v w : Int32} (h : k_mxs K S v) (g : k_mxs K S w) : v = w := by
  obtain ⟨⟨r1, a1, b1⟩, c1⟩ := h
  obtain ⟨⟨r2, a2, b2⟩, c2⟩ := g
  have x1 := c1 r2 a2
  have x2 := c2 r1 a1
  rw [b2] at x1
  rw [b1] at x2
  rw [← Int32.toInt_inj]
  omega
theorem k_ah_t {m i n : Nat} : k_ah K true m A i n = if n ≤ i then A (i - n) else -2 := by
  unfold k_ah
  by_cases q : n ≤ i
  · rw [if_pos q, if_pos q]
  · rw [if_neg q, if_neg q, if_pos rfl]
theorem k_fe_t {m y i : Nat} : k_fe K true m A y i = k_fe K true 8 A y i := by
  unfold k_fe
  rw [k_ah_t, k_ah_t, k_ah_t, k_ah_t, k_ah_t, k_ah_t]
theorem k_fe_tc {y i : Nat} (h : ∀ j, j < i → A j = B j) : k_fe K true 8 A y i = k_fe K true 8 B y i := by
  have e : ∀ n, 1 ≤ n → k_ah K true 8 A i n = k_ah K true 8 B i n := fun n hn => by
    rw [k_ah_t, k_ah_t]
    by_cases q : n ≤ i
    · rw [if_pos q, if_pos q]; exact h _ (by omega)
    · rw [if_neg q, if_neg q]
  unfold k_fe
  rw [e 3 (by decide), e 2 (by decide), e 1 (by decide)]
theorem k_fe_tl {y i : Nat} (hA : ∀ j, j < i → L (3 + j) = A j) (hB : ∀ j, j < 3 → L j = -2) : k_fo y (L i) (L (i + 1)) (L (i + 2)) = k_fe K true 8 A y i := by
  have v : ∀ n, 1 ≤ n → n ≤ 3 → L (i + (3 - n)) = k_ah K true 8 A i n := fun n h1 h3 => by
    rw [k_ah_t]
    by_cases q : n ≤ i
    · rw [if_pos q, show i + (3 - n) = 3 + (i - n) by omega]
      exact hA _ (by omega)
    · rw [if_neg q]
      exact hB _ (by omega)
  have v1 := v 1 (by decide) (by decide)
  have v2 := v 2 (by decide) (by decide)
  have v3 := v 3 (by decide) (by decide)
  rw [show i + (3 - 1) = i + 2 by omega] at v1
  rw [show i + (3 - 2) = i + 1 by omega] at v2
  rw [show i + (3 - 3) = i by omega] at v3
  rw [v1, v2, v3]
  rfl
theorem k_nk_gd (hk : k_ok K) (p : Nat) (hg : 0 < k_g K) : k_gd K (k_nk K p) := by
  unfold k_nk
  cases e : k_pl K p with
  | none => exact Or.inr ⟨0, hg, rfl⟩
  | some j => exact k_as_gd hk (k_pl_some e).1
theorem k_fe_tg (hk : k_ok K) {y i : Nat} (hA : ∀ j, j < i → k_gd K (A j)) : k_gd K (k_fe K true 8 A y i) := by
  have e : ∀ n, 1 ≤ n → k_ah K true 8 A i n = -2 ∨ k_gd K (k_ah K true 8 A i n) := fun n hn => by
    rw [k_ah_t]
    by_cases q : n ≤ i
    · rw [if_pos q]; exact Or.inr (hA _ (by omega))
    · rw [if_neg q]; exact Or.inl rfl
  exact k_fo_gd (e 1 (by decide)) (e 2 (by decide)) (e 3 (by decide))
theorem k_xr_pre {p i : Nat} (hi : i < r.length) : k_xr K (r ++ [p]) i = k_xr K r i := by
  unfold k_xr
  rw [k_gl hi]
theorem k_xs_s {p : Nat} : k_xs K (r ++ [p]) = k_xs K r + k_wt K p (k_fe K true 8 (k_xr K r) (k_y K) r.length) := by
  unfold k_xs
  rw [List.length_append]
  show k_sm (k_xt K (r ++ [p])) r.length + k_xt K (r ++ [p]) r.length = _
  congr 1
  · refine k_sm_cg _ fun i hi => ?_
    unfold k_xt
    rw [k_gl hi, k_fe_tc (fun j hj => k_xr_pre (p := p) (show j < r.length by omega))]
  · unfold k_xt
    rw [k_gr, k_fe_tc (fun j hj => k_xr_pre (p := p) hj)]
theorem k_ir_bl {S : Nat} (hS : S < 256) (hn : ∀ p, S.testBit p = true → p < k_n K) : k_ir K S (k_bl S 8) := by
  refine ⟨⟨fun i hi => hn _ (k_bl_g hi).2, fun i j hi hj e => k_bl_inj hi hj e⟩, fun p => ?_⟩
  cases e : S.testBit p
  · cases e2 : (k_bl S 8).contains p
    · rfl
    · have hm := List.contains_iff_mem.mp e2
      unfold k_bl at hm
      rw [List.mem_filter] at hm
      rw [hm.2] at e
      exact nomatch e
  · refine List.contains_iff_mem.mpr ?_
    unfold k_bl
    rw [List.mem_filter, List.mem_range]
    refine ⟨?_, e⟩
    rcases Nat.lt_or_ge p 8 with q | q
    · exact q
    · rw [k_256 hS q] at e; exact nomatch e
theorem k_ir_s {S p : Nat} (h : k_ir K S r) (hp : p < k_n K) (hc : S.testBit p = false) : k_ir K (S ||| 2 ^ p) (r ++ [p]) := by
  refine ⟨k_rw_s h.1 hp (by rw [h.2]; exact hc), fun q => ?_⟩
  rw [k_ctn, h.2, Nat.testBit_or, n_p2b]
theorem k_rw_pre {l : List Nat} (h : k_rw K (r ++ l)) : k_rw K r := by
  have ln : (r ++ l).length = r.length + l.length := List.length_append
  have g : ∀ i, i < r.length → (r ++ l).getD i 0 = r.getD i 0 := fun i hi => by
    rw [List.getD_eq_getElem?_getD, List.getD_eq_getElem?_getD, List.getElem?_append_left hi]
  refine ⟨fun i hi => ?_, fun i j hi hj e => ?_⟩
  · rw [← g i hi]; exact h.1 i (by omega)
  · rw [← g i hi, ← g j hj] at e
    exact h.2 i j (by omega) (by omega) e
theorem k_rw_no {p : Nat} (h : k_rw K (r ++ [p])) : r.contains p = false := by
  cases e : r.contains p
  · rfl
  · have hm := List.contains_iff_mem.mp e
    obtain ⟨i, hi, hi2⟩ := List.mem_iff_getElem.mp hm
    have ln : (r ++ [p]).length = r.length + 1 := by rw [List.length_append]; rfl
    have := h.2 i r.length (by omega) (by omega) (by rw [k_gl hi, k_gr, List.getD_eq_getElem?_getD, List.getElem?_eq_getElem hi, ← hi2]; rfl)
    omega
theorem k_cd_le {a b : Nat} (h : k_dif a b = 0) : k_card a ≤ k_card b := by
  have z : ∀ i, (if a.testBit i then 1 else 0) ≤ (if b.testBit i then 1 else 0) := fun i => by
    have := k_dif_0.mp h i
    cases e : a.testBit i
    · exact Nat.zero_le _
    · rw [this e]; exact Nat.le_refl _
  have z0 := z 0; have z1 := z 1; have z2 := z 2; have z3 := z 3; have z4 := z 4; have z5 := z 5; have z6 := z 6; have z7 := z 7
  unfold k_card
  omega
end SH
/-! the class -/
def k_xq (K : Nat → Int32) (al : Nat) (r : List Nat) (w w' : Nat → Int32) : Prop := ∀ S, S < 256 → (w S).toInt ≤ (w' S).toInt ∧ (w' S = w S ∨ ∃ l, k_ir K S (r ++ l) ∧ k_xs K (r ++ l) = w' S) ∧ ∀ l, k_ir K S (r ++ l) → k_dif S al = 0 → (k_xs K (r ++ l)).toInt ≤ (w' S).toInt
theorem n_mx {a b : Int32} : a.toInt ≤ (ir_mx a b).toInt ∧ b.toInt ≤ (ir_mx a b).toInt ∧ (ir_mx a b = a ∨ ir_mx a b = b) := by
  unfold ir_mx
  by_cases q : a < b
  · rw [if_pos q]
    rw [Int32.lt_iff_toInt_lt] at q
    exact ⟨by omega, by omega, Or.inr rfl⟩
  · rw [if_neg q]
    rw [Int32.lt_iff_toInt_lt] at q
    exact ⟨by omega, by omega, Or.inl rfl⟩
def c_xn (K : Nat → Int32) (al : Nat) (r : List Nat) (M : ir_M) : Prop := c_rl M 12 K ∧ ir_P M 129 4 = 4 ∧ ir_I M 129 3 = nI al ∧ (∀ p, al.testBit p = true → ir_I M 131 p = k_nk K p) ∧ (∀ j, j < 3 → ir_I M 132 j = -2) ∧ ∀ i, i < r.length → ir_I M 132 (3 + i) = k_xr K r i
theorem c_xg {M : ir_M} (hp : q_PI M) (h : ir_P M 129 4 = 4) : ir_P M 129 4 = 4 ∧ ir_gp M 129 7 4 = true := ⟨h, q_gpV hp rfl h rfl⟩
section SHC
variable {K : Nat → Int32} {al d : Nat}
theorem c_cb (ha : al < 256) (hal : ∀ p, al.testBit p = true → p < k_n K) : ∀ (k : Nat) {r : List Nat} {s : Nat} {M : ir_M}, k_card (k_dif al s) = k → r.length + k ≤ 6 → s < 256 → k_dif s al = 0 → k_ir K s r → c_xn K al r M → ∃ M', m_X7_comeBehind (d + 3 + k) 129 (nI r.length) (nI s) (k_xs K r) M = ir_oV M' ∧ q_eq [130, 132] M M' ∧ c_xn K al r M' ∧ k_xq K al r (fun S => ir_I M 130 S) (fun S => ir_I M' 130 S)
  | k, r, s, M, hC, h6, hs, hsa, hr, h => by
    have hk := h.1.2.2.1
    have hb := k_bds hk
    obtain ⟨h1, h2, h3, h4, h5, h7⟩ := h
    obtain ⟨M1, eM1⟩ : ∃ N, N = ir_sI M 130 s (ir_mx (ir_I M 130 s) (k_xs K r)) := ⟨_, rfl⟩
    have q1 : q_eq [130, 132] M M1 := by rw [eM1]; exact q_eq.sI (by decide)
    have c1 : c_xn K al r M1 := by
      refine ⟨q_st_c (q_st_eq h1.1 q1 (by decide)) h1, by rw [eM1]; exact h2, by rw [q_I_eq q1 (by decide)]; exact h3, fun p hp => by rw [q_I_eq q1 (by decide)]; exact h4 p hp, fun j hj => ?_, fun i hi => ?_⟩
      · rw [eM1, q_I_n (by decide)]; exact h5 j hj
      · rw [eM1, q_I_n (by decide)]; exact h7 i hi
    -- the set itself
    have self1 : ∀ S, S < 256 → (ir_I M 130 S).toInt ≤ (ir_I M1 130 S).toInt ∧ (ir_I M1 130 S = ir_I M 130 S ∨ ∃ l, k_ir K S (r ++ l) ∧ k_xs K (r ++ l) = ir_I M1 130 S) ∧ (k_ir K S r → (k_xs K r).toInt ≤ (ir_I M1 130 S).toInt) := fun S hS => by
      rw [eM1, q_I_u]
      by_cases q : S = s
      · rw [if_pos q, q]
        obtain ⟨m1, m2, m3⟩ := n_mx (a := ir_I M 130 s) (b := k_xs K r)
        refine ⟨m1, ?_, fun _ => m2⟩
        rcases m3 with e | e
        · exact Or.inl e
        · exact Or.inr ⟨[], by rw [List.append_nil]; exact hr, by rw [List.append_nil]; exact e.symm⟩
      · rw [if_neg q]
        refine ⟨Int.le_refl _, Or.inl rfl, fun hi => ?_⟩
        exact absurd (k_bit_eq (fun p => by rw [← hi.2, hr.2])) q
    have fin : ∀ N, (∀ S, S < 256 → (ir_I M1 130 S).toInt ≤ (ir_I N 130 S).toInt ∧ (ir_I N 130 S = ir_I M1 130 S ∨ ∃ l, k_ir K S (r ++ l) ∧ k_xs K (r ++ l) = ir_I N 130 S) ∧ ∀ p, p < k_n K → ∀ l, k_ir K S (r ++ p :: l) → k_dif S al = 0 → (k_xs K (r ++ p :: l)).toInt ≤ (ir_I N 130 S).toInt) → k_xq K al r (fun S => ir_I M 130 S) (fun S => ir_I N 130 S) := fun N hN S hS => by
      obtain ⟨a1, a2, a3⟩ := self1 S hS
      obtain ⟨b1, b2, b3⟩ := hN S hS
      dsimp only
      refine ⟨by omega, ?_, fun l hl hd => ?_⟩
      · rcases b2 with e | e
        · rw [e]; exact a2
        · exact Or.inr e
      · cases l with
        | nil =>
          rw [List.append_nil] at hl ⊢
          have := a3 hl
          omega
        | cons p l =>
          have hpc : (r ++ p :: l).contains p = true := List.contains_iff_mem.mpr (by simp)
          rw [hl.2] at hpc
          exact b3 p (hal p (k_dif_0.mp hd p hpc)) l hl hd
    by_cases q6 : r.length < 6
    · obtain ⟨C, eC⟩ : ∃ C, C = k_fe K true 8 (k_xr K r) (k_y K) r.length := ⟨_, rfl⟩
      have g0 : ∀ p, al.testBit p = true → 0 < k_g K := fun p hp => by have := k_ag hk (hal p hp); omega
      have bits : ∀ i, i < r.length → al.testBit (r.getD i 0) = true := fun i hi => by
        have hm : r.contains (r.getD i 0) = true := List.contains_iff_mem.mpr (by
          rw [List.getD_eq_getElem?_getD, List.getElem?_eq_getElem hi]
          exact List.getElem_mem hi)
        rw [hr.2] at hm
        exact k_dif_0.mp hsa _ hm
      have gC : k_gd K C := by
        rw [eC]
        exact k_fe_tg hk (fun j hj => k_nk_gd hk _ (g0 _ (bits j hj)))
      have fo : m_X0_fallOf (d + 2 + k) (nI (k_y K)) (ir_I M 132 r.length) (ir_I M 132 (r.length + 1)) (ir_I M 132 (r.length + 2)) M1 = ir_oI C M1 := by
        rw [show d + 2 + k = d + 1 + k + 1 by omega, c_fo (by omega), eC, k_fe_tl (K := K) (A := k_xr K r) (L := fun j => ir_I M 132 j) h7 h5]
      have L := q_up (σ := ir_M) (V := fun x t => v_X7_comeBehind_60 (d + 2 + k) 129 (nI r.length) (nI s) (k_xs K r) C (nI x) t) (N := k_n K) (I := fun x t => q_eq [130, 132] M1 t ∧ c_xn K al r t ∧ ∀ S, S < 256 → (ir_I M1 130 S).toInt ≤ (ir_I t 130 S).toInt ∧ (ir_I t 130 S = ir_I M1 130 S ∨ ∃ l, k_ir K S (r ++ l) ∧ k_xs K (r ++ l) = ir_I t 130 S) ∧ ∀ p, p < x → ∀ l, k_ir K S (r ++ p :: l) → k_dif S al = 0 → (k_xs K (r ++ p :: l)).toInt ≤ (ir_I t 130 S).toInt) (K := ir_oV) (by
        rintro x t hx ⟨hq, ⟨g1, g2, g3, g4, g5, g7⟩, hW⟩
        have bt : ((nI al &&& (nI s ^^^ (-1 : Int32))) &&& nI (2 ^ x) = 0) = ((k_dif al s).testBit x = false) := by rw [n_dif, n_bt (by omega)]
        by_cases qb : (k_dif al s).testBit x = true
        · rw [k_dif_bit, Bool.and_eq_true, Bool.not_eq_true'] at qb
          obtain ⟨t1, et1⟩ : ∃ N, N = ir_sI t 132 (3 + r.length) (k_nk K x) := ⟨_, rfl⟩
          have q2 : q_eq [130, 132] t t1 := by rw [et1]; exact q_eq.sI (by decide)
          have ln : (r ++ [x]).length = r.length + 1 := by rw [List.length_append]; rfl
          have c2 : c_xn K al (r ++ [x]) t1 := by
            refine ⟨q_st_c (q_st_eq g1.1 q2 (by decide)) g1, by rw [et1]; exact g2, by rw [q_I_eq q2 (by decide)]; exact g3, fun p hp => by rw [q_I_eq q2 (by decide)]; exact g4 p hp, fun j hj => ?_, fun i hi => ?_⟩
            · rw [et1, q_I_k (by omega)]; exact g5 j hj
            · rw [et1, q_I_u]
              by_cases q : i = r.length
              · rw [if_pos (by omega), q]
                unfold k_xr
                rw [k_gr]
              · rw [if_neg (by omega), k_xr_pre (by omega)]; exact g7 i (by omega)
          have db : (k_dif al s).testBit x = true := by rw [k_dif_bit, qb.1, qb.2]; rfl
          have ed : k_dif al (s ||| 2 ^ x) = k_dif (k_dif al s) (2 ^ x) := k_bit_eq fun i => by
            rw [k_dif_bit, k_dif_bit, k_dif_bit, Nat.testBit_or]
            cases al.testBit i <;> cases s.testBit i <;> cases (2 ^ x).testBit i <;> rfl
          have cd := k_cd_d _ (k_dif_lt ha (b := s)) x (by omega) db
          rw [← ed] at cd
          have hk1 : 1 ≤ k := by omega
          have s2 : s ||| 2 ^ x < 256 := Nat.or_lt_two_pow (n := 8) hs (n_p2 (by omega))
          have sa2 : k_dif (s ||| 2 ^ x) al = 0 := k_dif_0.mpr fun i hi => by
            rw [Nat.testBit_or, n_p2b, Bool.or_eq_true] at hi
            rcases hi with e | e
            · exact k_dif_0.mp hsa i e
            · rw [← of_decide_eq_true e]; exact qb.1
          obtain ⟨t2, e2, q3, a3, b3⟩ := c_cb ha hal (k - 1) (r := r ++ [x]) (s := s ||| 2 ^ x) (by omega) (by omega) s2 sa2 (k_ir_s hr hx qb.2) c2
          refine ⟨t2, ⟨(hq.tr q2).tr q3, ?_, fun S hS => ?_⟩, ?_⟩
          · obtain ⟨y1, y2, y3, y4, y5, y7⟩ := a3
            exact ⟨y1, y2, y3, y4, y5, fun i hi => by rw [y7 i (by omega), k_xr_pre hi]⟩
          · obtain ⟨w1, w2, w3⟩ := hW S hS
            obtain ⟨z1, z2, z3⟩ := b3 S hS
            dsimp only at z1 z2 z3
            have e130 : ir_I t1 130 S = ir_I t 130 S := by rw [et1, q_I_n (by decide)]
            rw [e130] at z1 z2
            refine ⟨by omega, ?_, fun p hp l hl hd => ?_⟩
            · rcases z2 with e | ⟨l, l1, l2⟩
              · rw [e]; exact w2
              · exact Or.inr ⟨x :: l, by rw [List.append_cons]; exact l1, by rw [List.append_cons]; exact l2⟩
            · by_cases qp : p = x
              · rw [qp, List.append_cons] at hl ⊢
                exact z3 l hl hd
              · have := w3 p (by omega) l hl hd
                omega
          · have wt := c_wt (d := d + 1 + k) c2.1 hx gC
            rw [show d + 1 + k + 1 = d + 2 + k by omega] at wt
            rw [ln, k_xs_s, ← eC, show d + 3 + (k - 1) = d + 2 + k by omega] at e2
            have nx := g4 x qb.1
            rw [L_X7_comeBehind_60]
            simp (disch := omega) only [q_ckt, q_lt, q_cI, q_cJ, q_cV, q_cP, q_xI, q_xV, q_xP, q_xJ, g_gk, g_ga, g_gw, g_gp, g_gq, g_P, g_J, q_I_s, q_I_n, q_I_k, nI_add, pk_sub, pk_mul, nI_clamp, n_lt0, n_0lt, n_eq0, n_lt, n_le, n_eq, n_m1, n_m2, n_m9, n_12, n_19, n_10, n_01, n_1n1, n_0n1, n_1n0, n_0n0, n_dI, n_m1lt, q_inb, n_nar, n_nar0, n_nar1, n_bool, Bool.false_eq_true, Bool.true_eq_false, if_true, if_false, ↓reduceIte, Nat.reduceAdd, Nat.reduceMul, Nat.reduceSub, Nat.reduceLT, Nat.reduceLeDiff, Nat.reduceEqDiff, Nat.reduceMod, Nat.reduceDiv, c_xg g1.1 g2, q_T g1.1, c_use g1, hx, q_H g1.1, g3, n_bit, bt, db, nx]
            rw [← et1]
            simp (disch := omega) only [q_ckt, q_lt, q_cI, q_cJ, q_cV, q_cP, q_xI, q_xV, q_xP, q_xJ, g_gk, g_ga, g_gw, g_gp, g_gq, g_P, g_J, q_I_s, q_I_n, q_I_k, nI_add, pk_sub, pk_mul, nI_clamp, n_lt0, n_0lt, n_eq0, n_lt, n_le, n_eq, n_m1, n_m2, n_m9, n_12, n_19, n_10, n_01, n_1n1, n_0n1, n_1n0, n_0n0, n_dI, n_m1lt, q_inb, n_nar, n_nar0, n_nar1, n_bool, Bool.false_eq_true, Bool.true_eq_false, if_true, if_false, ↓reduceIte, Nat.reduceAdd, Nat.reduceMul, Nat.reduceSub, Nat.reduceLT, Nat.reduceLeDiff, Nat.reduceEqDiff, Nat.reduceMod, Nat.reduceDiv, c_xg c2.1.1 c2.2.1, q_T c2.1.1, wt, q_H c2.1.1, n_or, e2]
        · refine ⟨t, ⟨hq, ⟨g1, g2, g3, g4, g5, g7⟩, fun S hS => ?_⟩, ?_⟩
          · obtain ⟨w1, w2, w3⟩ := hW S hS
            refine ⟨w1, w2, fun p hp l hl hd => ?_⟩
            by_cases qp : p = x
            · exfalso
              rw [qp] at hl
              have hpc : (r ++ x :: l).contains x = true := List.contains_iff_mem.mpr (by simp)
              rw [hl.2] at hpc
              have hax := k_dif_0.mp hd x hpc
              have nor : r.contains x = false := by
                have hw := hl.1
                rw [List.append_cons] at hw
                exact k_rw_no (k_rw_pre hw)
              rw [hr.2] at nor
              exact qb (by rw [k_dif_bit, hax, nor]; rfl)
            · exact w3 p (by omega) l hl hd
          · rw [L_X7_comeBehind_60]
            simp (disch := omega) only [q_ckt, q_lt, q_cI, q_cJ, q_cV, q_cP, q_xI, q_xV, q_xP, q_xJ, g_gk, g_ga, g_gw, g_gp, g_gq, g_P, g_J, q_I_s, q_I_n, q_I_k, nI_add, pk_sub, pk_mul, nI_clamp, n_lt0, n_0lt, n_eq0, n_lt, n_le, n_eq, n_m1, n_m2, n_m9, n_12, n_19, n_10, n_01, n_1n1, n_0n1, n_1n0, n_0n0, n_dI, n_m1lt, q_inb, n_nar, n_nar0, n_nar1, n_bool, Bool.false_eq_true, Bool.true_eq_false, if_true, if_false, ↓reduceIte, Nat.reduceAdd, Nat.reduceMul, Nat.reduceSub, Nat.reduceLT, Nat.reduceLeDiff, Nat.reduceEqDiff, Nat.reduceMod, Nat.reduceDiv, c_xg g1.1 g2, q_T g1.1, c_use g1, hx, q_H g1.1, g3, n_bit, bt, Bool.eq_false_iff.mpr qb]) (by
        rintro t ⟨hq, ht, hW⟩
        rw [L_X7_comeBehind_60]
        simp (disch := omega) only [q_ckt, q_lt, q_cI, q_cJ, q_cV, q_cP, q_xI, q_xV, q_xP, q_xJ, g_gk, g_ga, g_gw, g_gp, g_gq, g_P, g_J, q_I_s, q_I_n, q_I_k, nI_add, pk_sub, pk_mul, nI_clamp, n_lt0, n_0lt, n_eq0, n_lt, n_le, n_eq, n_m1, n_m2, n_m9, n_12, n_19, n_10, n_01, n_1n1, n_0n1, n_1n0, n_0n0, n_dI, n_m1lt, q_inb, n_nar, n_nar0, n_nar1, n_bool, Bool.false_eq_true, Bool.true_eq_false, if_true, if_false, ↓reduceIte, Nat.reduceAdd, Nat.reduceMul, Nat.reduceSub, Nat.reduceLT, Nat.reduceLeDiff, Nat.reduceEqDiff, Nat.reduceMod, Nat.reduceDiv, c_xg ht.1.1 ht.2.1, q_T ht.1.1, c_use ht.1, Nat.lt_irrefl]) (i := 0) (t := M1) (by omega) ⟨q_eq.rf _ _, c1, fun S hS => ⟨Int.le_refl _, Or.inl rfl, fun p hp => absurd hp (by omega)⟩⟩
      obtain ⟨t, ⟨a, b, c⟩, ee⟩ := L
      refine ⟨t, ?_, q1.tr a, b, fin t c⟩
      rw [show d + 3 + k = d + 2 + k + 1 by omega, E_X7_comeBehind]
      simp (disch := omega) only [q_ckt, q_lt, q_cI, q_cJ, q_cV, q_cP, q_xI, q_xV, q_xP, q_xJ, g_gk, g_ga, g_gw, g_gp, g_gq, g_P, g_J, q_I_s, q_I_n, q_I_k, nI_add, pk_sub, pk_mul, nI_clamp, n_lt0, n_0lt, n_eq0, n_lt, n_le, n_eq, n_m1, n_m2, n_m9, n_12, n_19, n_10, n_01, n_1n1, n_0n1, n_1n0, n_0n0, n_dI, n_m1lt, q_inb, n_nar, n_nar0, n_nar1, n_bool, Bool.false_eq_true, Bool.true_eq_false, if_true, if_false, ↓reduceIte, Nat.reduceAdd, Nat.reduceMul, Nat.reduceSub, Nat.reduceLT, Nat.reduceLeDiff, Nat.reduceEqDiff, Nat.reduceMod, Nat.reduceDiv, q_H h1.1, q6, c_xg h1.1 h2, q_T h1.1, c_use h1]
      rw [← eM1]
      simp (disch := omega) only [q_ckt, q_lt, q_cI, q_cJ, q_cV, q_cP, q_xI, q_xV, q_xP, q_xJ, g_gk, g_ga, g_gw, g_gp, g_gq, g_P, g_J, q_I_s, q_I_n, q_I_k, nI_add, pk_sub, pk_mul, nI_clamp, n_lt0, n_0lt, n_eq0, n_lt, n_le, n_eq, n_m1, n_m2, n_m9, n_12, n_19, n_10, n_01, n_1n1, n_0n1, n_1n0, n_0n0, n_dI, n_m1lt, q_inb, n_nar, n_nar0, n_nar1, n_bool, Bool.false_eq_true, Bool.true_eq_false, if_true, if_false, ↓reduceIte, Nat.reduceAdd, Nat.reduceMul, Nat.reduceSub, Nat.reduceLT, Nat.reduceLeDiff, Nat.reduceEqDiff, Nat.reduceMod, Nat.reduceDiv, fo]
      exact ee
    · refine ⟨M1, ?_, q1, c1, fin M1 fun S hS => ⟨Int.le_refl _, Or.inl rfl, fun p hp l hl hd => ?_⟩⟩
      · rw [show d + 3 + k = d + 2 + k + 1 by omega, E_X7_comeBehind]
        simp (disch := omega) only [q_ckt, q_lt, q_cI, q_cJ, q_cV, q_cP, q_xI, q_xV, q_xP, q_xJ, g_gk, g_ga, g_gw, g_gp, g_gq, g_P, g_J, q_I_s, q_I_n, q_I_k, nI_add, pk_sub, pk_mul, nI_clamp, n_lt0, n_0lt, n_eq0, n_lt, n_le, n_eq, n_m1, n_m2, n_m9, n_12, n_19, n_10, n_01, n_1n1, n_0n1, n_1n0, n_0n0, n_dI, n_m1lt, q_inb, n_nar, n_nar0, n_nar1, n_bool, Bool.false_eq_true, Bool.true_eq_false, if_true, if_false, ↓reduceIte, Nat.reduceAdd, Nat.reduceMul, Nat.reduceSub, Nat.reduceLT, Nat.reduceLeDiff, Nat.reduceEqDiff, Nat.reduceMod, Nat.reduceDiv, q_H h1.1]
        rw [← eM1]
        simp (disch := omega) only [q_ckt, q_lt, q_cI, q_cJ, q_cV, q_cP, q_xI, q_xV, q_xP, q_xJ, g_gk, g_ga, g_gw, g_gp, g_gq, g_P, g_J, q_I_s, q_I_n, q_I_k, nI_add, pk_sub, pk_mul, nI_clamp, n_lt0, n_0lt, n_eq0, n_lt, n_le, n_eq, n_m1, n_m2, n_m9, n_12, n_19, n_10, n_01, n_1n1, n_0n1, n_1n0, n_0n0, n_dI, n_m1lt, q_inb, n_nar, n_nar0, n_nar1, n_bool, Bool.false_eq_true, Bool.true_eq_false, if_true, if_false, ↓reduceIte, Nat.reduceAdd, Nat.reduceMul, Nat.reduceSub, Nat.reduceLT, Nat.reduceLeDiff, Nat.reduceEqDiff, Nat.reduceMod, Nat.reduceDiv, q6]
      · exfalso
        have hpc : (r ++ p :: l).contains p = true := List.contains_iff_mem.mpr (by simp)
        rw [hl.2] at hpc
        have hax := k_dif_0.mp hd p hpc
        have nor : r.contains p = false := by
          have hw := hl.1
          rw [List.append_cons] at hw
          exact k_rw_no (k_rw_pre hw)
        rw [hr.2] at nor
        have z : k_dif al s = 0 := (k_card_le _ (k_dif_lt ha)).2 (by omega)
        have := k_dif_0.mp z p hax
        rw [nor] at this
        exact nomatch this
  termination_by k => k
  decreasing_by all_goals omega
/-- all sets are weighed -/
theorem c_wei {M : ir_M} (h : c_rl M 12 K) (ha : al < 256) (hm : k_dif al (k_mb K) = 0) (h6 : k_m K ≤ 6) : ∃ M', m_X7_weigh (d + 11) 129 4 12 116 (nI al) M = ir_oV M' ∧ q_st 0 M M' ∧ ∀ S, S < 256 → k_dif S al = 0 → k_mxs K S (ir_I M' 130 S) := by
  have hk := h.2.2.1
  have hb := k_bds hk
  have hal : ∀ p, al.testBit p = true → p < k_n K := fun p hp => by
    obtain ⟨j, hj⟩ := k_set_m hk hm hp
    obtain ⟨h1, h2⟩ := k_pl_some hj
    have := k_qn hk h1
    omega
  obtain ⟨N1, e1⟩ : ∃ N, N = ir_sP M 129 4 4 := ⟨_, rfl⟩
  have s1 : q_st 0 M N1 := by rw [e1]; exact q_st_P h.1 (by decide +kernel) (by decide) (by decide)
  have P1 : ir_P N1 129 4 = 4 := by rw [e1, p_Ps]
  obtain ⟨N2, e2⟩ : ∃ N, N = ir_sI N1 129 3 (nI al) := ⟨_, rfl⟩
  have q2 : q_eq [129] N1 N2 := by rw [e2]; exact q_eq.sI (by decide)
  have s2 := s1.tr (q_st_eq s1.1.1 q2 (by decide))
  have c2 := q_st_c s2 h
  obtain ⟨N3, e3, q3, a3⟩ := c_la (d := d + 6) c2
  have c3 := c_rl_eq c2 q3 (by decide)
  have Lp := q_up (σ := ir_M) (V := fun x t => v_X7_weigh_23 (d + 10) 129 12 116 (nI x) t) (N := k_m K) (I := fun x t => q_eq [131] N3 t ∧ ∀ j, j < x → ir_I t 131 (k_q K j) = k_as K j) (K := fun t => v_X7_weigh_23 (d + 10) 129 12 116 (nI (k_m K)) t) (by
    rintro x t hx ⟨hq, ht⟩
    have ct := q_st_c (q_st_eq c3.1 hq (by decide)) c3
    have hqx := k_qn hk hx
    have lx : ir_I t 117 (3 + x) = k_as K x := by rw [q_I_eq hq (by decide)]; exact a3 x hx
    refine ⟨ir_sI t 131 (k_q K x) (k_as K x), ⟨hq.tr (q_eq.sI (by decide)), fun j hj => ?_⟩, ?_⟩
    · rw [q_I_u]
      by_cases q : j = x
      · rw [if_pos (by rw [q]), q]
      · rw [if_neg (fun w => q (hk.2.2.2.2.2.1 j x (by omega) hx w))]
        exact ht j (by omega)
    · rw [L_X7_weigh_23]
      simp (disch := omega) only [q_ckt, q_lt, q_cI, q_cJ, q_cV, q_cP, q_xI, q_xV, q_xP, q_xJ, g_gk, g_ga, g_gw, g_gp, g_gq, g_P, g_J, q_I_s, q_I_n, q_I_k, nI_add, pk_sub, pk_mul, nI_clamp, n_lt0, n_0lt, n_eq0, n_lt, n_le, n_eq, n_m1, n_m2, n_m9, n_12, n_19, n_10, n_01, n_1n1, n_0n1, n_1n0, n_0n0, n_dI, n_m1lt, q_inb, n_nar, n_nar0, n_nar1, n_bool, Bool.false_eq_true, Bool.true_eq_false, if_true, if_false, ↓reduceIte, Nat.reduceAdd, Nat.reduceMul, Nat.reduceSub, Nat.reduceLT, Nat.reduceLeDiff, Nat.reduceEqDiff, Nat.reduceMod, Nat.reduceDiv, q_S ct.1 (a := 12) (by decide), c_use ct, hx, q_H ct.1, q_F ct.1, lx]) (fun _ _ => rfl) (i := 0) (t := N3) (by omega) ⟨q_eq.rf _ _, fun j hj => absurd hj (by omega)⟩
  obtain ⟨N4, ⟨q4, a4⟩, e4⟩ := Lp
  have c4 := q_st_c (q_st_eq c3.1 q4 (by decide)) c3
  obtain ⟨N5, e5, q5, a5⟩ := f_I (a := 130) (N := 256) (d := d + 9) (v := -2147483648) c4.1 (by decide) rfl (by rw [q_ln_eq (by decide)]; rfl) (fun M' hp' => q_w130 hp')
  have c5 := q_st_c (q_st_eq c4.1 q5 (by decide)) c4
  obtain ⟨N6, e6, q6, a6⟩ := f_I (a := 132) (N := 11) (d := d + 9) (v := -2) c5.1 (by decide) rfl (by rw [q_ln_eq (by decide)]; rfl) (fun M' hp' => q_w132 hp')
  have c6 := q_st_c (q_st_eq c5.1 q6 (by decide)) c5
  have P6 : ir_P N6 129 4 = 4 := by
    unfold ir_P at P1 ⊢
    rw [q6.2, q5.2, q4.2, q3.2, q2.2]
    exact P1
  have q26 : q_eq [9, 117, 120, 130, 131, 132] N2 N6 := (((q3.sub (by decide)).tr (q4.sub (by decide))).tr (q5.sub (by decide))).tr (q6.sub (by decide))
  have xn : c_xn K al [] N6 := by
    refine ⟨c6, P6, by rw [q_I_eq q26 (by decide), e2, q_I_s], fun p hp => ?_, fun j hj => a6 j (by omega), fun i hi => absurd hi (by show ¬ i < 0; omega)⟩
    obtain ⟨j, hj⟩ := k_set_m hk hm hp
    obtain ⟨h1, h2⟩ := k_pl_some hj
    unfold k_nk
    rw [hj, q_I_eq q6 (by decide), q_I_eq q5 (by decide), ← h2]
    exact a4 j h1
  have cle := k_cd_le hm
  rw [k_mb_cd hk] at cle
  have ed0 : k_dif al 0 = al := k_bit_eq fun i => by rw [k_dif_bit, Nat.zero_testBit, Bool.not_false, Bool.and_true]
  obtain ⟨N7, e7, q7, a7, b7⟩ := c_cb (K := K) (d := d + 7 - k_card al) ha hal (k_card al) (r := []) (s := 0) (by rw [ed0]) (by show 0 + k_card al ≤ 6; omega) (by decide) (k_dif_0.mpr fun i hi => by rw [Nat.zero_testBit] at hi; exact nomatch hi) ⟨⟨fun i hi => absurd hi (by show ¬ i < 0; omega), fun i j hi => absurd hi (by show ¬ i < 0; omega)⟩, fun p => by rw [Nat.zero_testBit]; rfl⟩ xn
  rw [show d + 7 - k_card al + 3 + k_card al = d + 10 by omega, show ([] : List Nat).length = 0 from rfl, show k_xs K [] = nI 0 from rfl] at e7
  refine ⟨N7, ?_, s2.tr (q_st_eq c2.1 ((q26.sub (T := [9, 117, 120, 130, 131, 132]) (by decide)).tr (q7.sub (by decide))) (by decide)), fun S hS hd => ?_⟩
  · have gv1 : ir_gv M 129 7 4 = true := q_gv0 h.1 rfl
    have P2 : ir_P N2 129 4 = 4 := by rw [e2]; exact P1
    rw [E_X7_weigh]
    simp (disch := omega) only [q_ckt, q_lt, q_cI, q_cJ, q_cV, q_cP, q_xI, q_xV, q_xP, q_xJ, g_gk, g_ga, g_gw, g_gp, g_gq, g_P, g_J, q_I_s, q_I_n, q_I_k, nI_add, pk_sub, pk_mul, nI_clamp, n_lt0, n_0lt, n_eq0, n_lt, n_le, n_eq, n_m1, n_m2, n_m9, n_12, n_19, n_10, n_01, n_1n1, n_0n1, n_1n0, n_0n0, n_dI, n_m1lt, q_inb, n_nar, n_nar0, n_nar1, n_bool, Bool.false_eq_true, Bool.true_eq_false, if_true, if_false, ↓reduceIte, Nat.reduceAdd, Nat.reduceMul, Nat.reduceSub, Nat.reduceLT, Nat.reduceLeDiff, Nat.reduceEqDiff, Nat.reduceMod, Nat.reduceDiv, gv1]
    rw [← e1]
    simp (disch := omega) only [q_ckt, q_lt, q_cI, q_cJ, q_cV, q_cP, q_xI, q_xV, q_xP, q_xJ, g_gk, g_ga, g_gw, g_gp, g_gq, g_P, g_J, q_I_s, q_I_n, q_I_k, nI_add, pk_sub, pk_mul, nI_clamp, n_lt0, n_0lt, n_eq0, n_lt, n_le, n_eq, n_m1, n_m2, n_m9, n_12, n_19, n_10, n_01, n_1n1, n_0n1, n_1n0, n_0n0, n_dI, n_m1lt, q_inb, n_nar, n_nar0, n_nar1, n_bool, Bool.false_eq_true, Bool.true_eq_false, if_true, if_false, ↓reduceIte, Nat.reduceAdd, Nat.reduceMul, Nat.reduceSub, Nat.reduceLT, Nat.reduceLeDiff, Nat.reduceEqDiff, Nat.reduceMod, Nat.reduceDiv, q_H s1.1.1, c_xg s1.1.1 P1, q_F s1.1.1]
    rw [← e2]
    simp (disch := omega) only [q_ckt, q_lt, q_cI, q_cJ, q_cV, q_cP, q_xI, q_xV, q_xP, q_xJ, g_gk, g_ga, g_gw, g_gp, g_gq, g_P, g_J, q_I_s, q_I_n, q_I_k, nI_add, pk_sub, pk_mul, nI_clamp, n_lt0, n_0lt, n_eq0, n_lt, n_le, n_eq, n_m1, n_m2, n_m9, n_12, n_19, n_10, n_01, n_1n1, n_0n1, n_1n0, n_0n0, n_dI, n_m1lt, q_inb, n_nar, n_nar0, n_nar1, n_bool, Bool.false_eq_true, Bool.true_eq_false, if_true, if_false, ↓reduceIte, Nat.reduceAdd, Nat.reduceMul, Nat.reduceSub, Nat.reduceLT, Nat.reduceLeDiff, Nat.reduceEqDiff, Nat.reduceMod, Nat.reduceDiv, e3]
    rw [e4, L_X7_weigh_23]
    simp (disch := omega) only [q_ckt, q_lt, q_cI, q_cJ, q_cV, q_cP, q_xI, q_xV, q_xP, q_xJ, g_gk, g_ga, g_gw, g_gp, g_gq, g_P, g_J, q_I_s, q_I_n, q_I_k, nI_add, pk_sub, pk_mul, nI_clamp, n_lt0, n_0lt, n_eq0, n_lt, n_le, n_eq, n_m1, n_m2, n_m9, n_12, n_19, n_10, n_01, n_1n1, n_0n1, n_1n0, n_0n0, n_dI, n_m1lt, q_inb, n_nar, n_nar0, n_nar1, n_bool, Bool.false_eq_true, Bool.true_eq_false, if_true, if_false, ↓reduceIte, Nat.reduceAdd, Nat.reduceMul, Nat.reduceSub, Nat.reduceLT, Nat.reduceLeDiff, Nat.reduceEqDiff, Nat.reduceMod, Nat.reduceDiv, q_S c4.1 (a := 12) (by decide), c_use c4, Nat.lt_irrefl, q_H c4.1, e5, q_H c5.1, e6, q_H c6.1, e7]
  · obtain ⟨z1, z2, z3⟩ := b7 S hS
    dsimp only at z1 z2 z3
    have hex := k_ir_bl (K := K) hS (fun p hp => hal p (k_dif_0.mp hd p hp))
    refine ⟨?_, fun r hr => z3 r hr hd⟩
    rcases z2 with e | ⟨l, l1, l2⟩
    · refine ⟨_, hex, ?_⟩
      have up := z3 (k_bl S 8) (by rw [List.nil_append]; exact hex) hd
      rw [List.nil_append] at up
      have e0 : ir_I N6 130 S = -2147483648 := by rw [q_I_eq q6 (by decide)]; exact a5 S hS
      rw [e, e0] at up ⊢
      rw [← Int32.toInt_inj]
      have lo := Int32.le_toInt (k_xs K (k_bl S 8))
      have : (-2147483648 : Int32).toInt = -2147483648 := by decide +kernel
      omega
    · exact ⟨l, l1, l2⟩
end SHC
