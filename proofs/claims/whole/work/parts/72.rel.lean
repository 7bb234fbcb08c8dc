/-! known, read: counts, the queue, what is asked; what holds of it; how the class's cells hang on it -/
def k_m (K : Nat → Int32) : Nat := (K 9).toNatClampNeg
def k_n (K : Nat → Int32) : Nat := (K 2).toNatClampNeg
def k_g (K : Nat → Int32) : Nat := (K 1).toNatClampNeg
def k_q (K : Nat → Int32) (i : Nat) : Nat := (K (10 + i)).toNatClampNeg
def k_a (K : Nat → Int32) (p : Nat) : Nat := (K (18 + p)).toNatClampNeg
def k_w (K : Nat → Int32) : Nat := (K 44).toNatClampNeg
def k_y (K : Nat → Int32) : Nat := (K 3).toNatClampNeg
/-- nothing, or a good -/
def k_gd (K : Nat → Int32) (x : Int32) : Prop := x = -1 ∨ ∃ j : Nat, j < k_g K ∧ x = nI j
def k_okS (K : Nat → Int32) : Prop := K 9 = nI (k_m K) ∧ k_m K ≤ k_n K ∧ (∀ i, i < k_m K → K (10 + i) = nI (k_q K i)) ∧ (∀ i, i < k_m K → k_q K i < k_n K) ∧ (∀ i j, i < k_m K → j < k_m K → k_q K i = k_q K j → i = j)
  ∧ (∀ p, p < k_n K → K (18 + p) = nI (k_a K p)) ∧ (∀ p, p < k_n K → k_a K p < k_g K) ∧ (K 43 = 0 ∨ K 43 = 1) ∧ K 44 = nI (k_w K) ∧ k_w K ≤ 8 ∧ (∀ i, i < k_w K → k_gd K (K (45 + i)))
def k_okT (K : Nat → Int32) : Prop := K 1 = nI (k_g K) ∧ k_g K ≤ 6 ∧ K 2 = nI (k_n K) ∧ k_n K ≤ 8 ∧ K 3 = nI (k_y K) ∧ 1 ≤ k_y K ∧ k_y K ≤ 3 ∧ (K 5 = 0 ∨ K 5 = 1) ∧ k_wfL K
def k_ok (K : Nat → Int32) : Prop := k_okT K ∧ k_okS K
def c_tdT (M : ir_M) (t : Nat) (K : Nat → Int32) : Prop := ir_I M t 0 = K 0 ∧ ir_I M t 1 = K 1 ∧ ir_I M t 2 = K 2 ∧ ir_I M t 3 = K 6 ∧ ir_I M t 4 = K 3 ∧ ir_I M t 5 = K 4 ∧ ir_I M t 6 = K 5
  ∧ (∀ p, p < k_n K → ir_I M (t + 1) p = K (53 + p)) ∧ (∀ p g, p < k_n K → g < k_g K → ir_I M (t + 6) (6 * p + g) = K (61 + 6 * p + g)) ∧ (∀ p q, p < k_n K → q < k_n K → ir_I M (t + 7) (8 * p + q) = K (109 + 8 * p + q))
  ∧ (ir_I M (t + 3) 0 = K 7 ∧ ∀ i, i < (K 7).toNatClampNeg → ir_I M (t + 4) i = nI (k_cd (k_sp K i)))
def c_td (M : ir_M) (K : Nat → Int32) : Prop := ir_I M 4 0 = K 0 ∧ ir_I M 4 1 = K 1 ∧ ir_I M 4 2 = K 2 ∧ ir_I M 4 3 = K 6 ∧ ir_I M 4 4 = K 3 ∧ ir_I M 4 5 = K 4 ∧ ir_I M 4 6 = K 5
  ∧ (∀ p, p < k_n K → ir_I M 5 p = K (53 + p)) ∧ (∀ p g, p < k_n K → g < k_g K → ir_I M 10 (6 * p + g) = K (61 + 6 * p + g)) ∧ (∀ p q, p < k_n K → q < k_n K → ir_I M 11 (8 * p + q) = K (109 + 8 * p + q))
  ∧ (ir_I M 7 0 = K 7 ∧ ∀ i, i < (K 7).toNatClampNeg → ir_I M 8 i = nI (k_cd (k_sp K i)))
theorem c_td_T {M : ir_M} {K : Nat → Int32} : c_td M K = c_tdT M 4 K := rfl
def c_st (M : ir_M) (s : Nat) (K : Nat → Int32) : Prop := ir_I M s 0 = K 9 ∧ ir_I M s 1 = K 42 ∧ ir_I M s 2 = K 43 ∧ ir_I M s 3 = K 44 ∧ (∀ i, i < k_m K → ir_I M (s + 1) i = K (10 + i)) ∧ (∀ p, p < k_n K → ir_I M (s + 2) p = K (18 + p))
  ∧ (∀ p, p < k_n K → ir_I M (s + 3) p = K (26 + p)) ∧ (∀ p, p < k_n K → ir_I M (s + 4) p = K (34 + p)) ∧ (∀ i, i < k_w K → ir_I M (s + 5) i = K (45 + i))
theorem c_tdT_fr {M M' : ir_M} {t : Nat} {K : Nat → Int32} (hf : ∀ j, j < 8 → j ≠ 2 → j ≠ 5 → M'.1 (t + j) = M.1 (t + j)) (h : c_tdT M t K) : c_tdT M' t K := by
  have f : ∀ j k, j < 8 → j ≠ 2 → j ≠ 5 → ir_I M' (t + j) k = ir_I M (t + j) k := fun j k h1 h2 h3 => congrFun (hf j h1 h2 h3) k
  have f0 : ∀ k, ir_I M' t k = ir_I M t k := fun k => f 0 k (by decide) (by decide) (by decide)
  unfold c_tdT at h ⊢
  simp only [f0, f 1 _ (by decide) (by decide) (by decide), f 3 _ (by decide) (by decide) (by decide), f 4 _ (by decide) (by decide) (by decide), f 6 _ (by decide) (by decide) (by decide), f 7 _ (by decide) (by decide) (by decide)]
  exact h
theorem c_st_fr {M M' : ir_M} {s : Nat} {K : Nat → Int32} (hf : ∀ j, j < 6 → M'.1 (s + j) = M.1 (s + j)) (h : c_st M s K) : c_st M' s K := by
  have f : ∀ j k, j < 6 → ir_I M' (s + j) k = ir_I M (s + j) k := fun j k h1 => congrFun (hf j h1) k
  have f0 : ∀ k, ir_I M' s k = ir_I M s k := fun k => f 0 k (by decide)
  unfold c_st at h ⊢
  simp only [f0, f 1 _ (by decide), f 2 _ (by decide), f 3 _ (by decide), f 4 _ (by decide), f 5 _ (by decide)]
  exact h
theorem c_td_eq {S : List Nat} {M M' : ir_M} {K : Nat → Int32} (he : q_eq S M M') (hS : (4 ∉ S ∧ 5 ∉ S ∧ 7 ∉ S ∧ 8 ∉ S ∧ 10 ∉ S ∧ 11 ∉ S)) (h : c_td M K) : c_td M' K := by
  rw [c_td_T] at h ⊢
  refine c_tdT_fr (fun j hj h2 h5 => he.1 _ ?_) h
  obtain ⟨a4, a5, a7, a8, a10, a11⟩ := hS
  have : j = 0 ∨ j = 1 ∨ j = 3 ∨ j = 4 ∨ j = 6 ∨ j = 7 := by omega
  rcases this with rfl | rfl | rfl | rfl | rfl | rfl <;> assumption
theorem c_st_eq {S : List Nat} {M M' : ir_M} {s : Nat} {K : Nat → Int32} (he : q_eq S M M') (hS : ∀ j, j < 6 → s + j ∉ S) (h : c_st M s K) : c_st M' s K := c_st_fr (fun j hj => he.1 _ (hS j hj)) h
theorem q_S_d : ∀ a ∈ q_S_l, ∀ j, j < 6 → a + j ∉ [9, 117, 118, 119, 120] := by decide +kernel
/-- what the class's own flow uses: a told, a state -/
def c_rl (M : ir_M) (s : Nat) (K : Nat → Int32) : Prop := q_PI M ∧ s ∈ q_S_l ∧ k_ok K ∧ c_td M K ∧ c_st M s K
theorem c_rl_eq {S : List Nat} {M M' : ir_M} {s : Nat} {K : Nat → Int32} (h : c_rl M s K) (he : q_eq S M M') (hS : ∀ a, a ∈ S → a ∈ [9, 117, 118, 119, 120]) : c_rl M' s K :=
  ⟨q_PI_eq he h.1, h.2.1, h.2.2.1, c_td_eq (he.sub hS) (by decide) h.2.2.2.1, c_st_eq (he.sub hS) (q_S_d s h.2.1) h.2.2.2.2⟩
/-- the class's cells, as numbers -/
theorem c_use {M : ir_M} {s : Nat} {K : Nat → Int32} (h : c_rl M s K) : ir_I M 4 1 = nI (k_g K) ∧ ir_I M 4 2 = nI (k_n K) ∧ ir_I M 4 4 = nI (k_y K) ∧ ir_I M 4 6 = K 5 ∧ ir_I M 4 5 = K 4 ∧ ir_I M s 0 = nI (k_m K) ∧ ir_I M s 1 = K 42 ∧ ir_I M s 2 = K 43 ∧ ir_I M s 3 = nI (k_w K)
    ∧ (∀ i, i < k_m K → ir_I M (s + 1) i = nI (k_q K i)) ∧ (∀ p, p < k_n K → ir_I M (s + 2) p = nI (k_a K p)) ∧ (∀ p, p < k_n K → ir_I M (s + 3) p = K (26 + p)) ∧ (∀ p, p < k_n K → ir_I M (s + 4) p = K (34 + p)) ∧ (∀ i, i < k_w K → ir_I M (s + 5) i = K (45 + i)) ∧ (∀ p, p < k_n K → ir_I M 5 p = K (53 + p)) := by
  obtain ⟨-, -, ⟨⟨t1, t2, t3, t4, t5, t6, t7, t8, t9⟩, s1, s2, s3, s4, s5, s6, s7, s8, s9, s10, s11⟩, ⟨a0, a1, a2, a3, a4, a5, a6, a7, a8, a9, a10⟩, b0, b1, b2, b3, b4, b5, b6, b7, b8⟩ := h
  exact ⟨a1.trans t1, a2.trans t3, a4.trans t5, a6, a5, b0.trans s1, b1, b2, b3.trans s9, fun i hi => (b4 i hi).trans (s3 i hi), fun p hp => (b5 p hp).trans (s6 p hp), b6, b7, b8, a7⟩
/-- bounds -/
theorem k_bds {K : Nat → Int32} (h : k_ok K) : k_g K ≤ 6 ∧ k_n K ≤ 8 ∧ k_m K ≤ k_n K ∧ k_w K ≤ 8 ∧ 1 ≤ k_y K ∧ k_y K ≤ 3 := by
  obtain ⟨⟨t1, t2, t3, t4, t5, t6, t7, t8, t9⟩, s1, s2, s3, s4, s5, s6, s7, s8, s9, s10, s11⟩ := h
  exact ⟨t2, t4, s2, s10, t6, t7⟩
theorem k_qn {K : Nat → Int32} (h : k_ok K) {i : Nat} (hi : i < k_m K) : k_q K i < k_n K := h.2.2.2.2.1 i hi
theorem k_ag {K : Nat → Int32} (h : k_ok K) {p : Nat} (hp : p < k_n K) : k_a K p < k_g K := h.2.2.2.2.2.2.2.1 p hp
theorem k_gd_na {K : Nat → Int32} {j : Nat} (h : j < k_g K) : k_gd K (nI j) := Or.inr ⟨j, h, rfl⟩
theorem k_gd6 {K : Nat → Int32} (h : k_ok K) {x : Int32} (hx : k_gd K x) : x = -1 ∨ ∃ j : Nat, j < 6 ∧ x = nI j := by
  have := (k_bds h).1
  rcases hx with hx | ⟨j, hj, hx⟩
  · exact Or.inl hx
  · exact Or.inr ⟨j, by omega, hx⟩
/-! falling -/
def k_as (K : Nat → Int32) (i : Nat) : Int32 := if k_al K (k_q K i) (nI (k_a K (k_q K i))) (nI i) = true then nI (k_a K (k_q K i)) else -1
def k_ah (K : Nat → Int32) (al : Bool) (m : Nat) (A : Nat → Int32) (i n : Nat) : Int32 := if n ≤ i then A (i - n) else if al = true then -2 else if K 43 = 1 then A ((3 * m - (n - i)) % m) else if K 5 = 1 ∧ n - i ≤ k_w K then K (45 + (k_w K - (n - i))) else -2
def k_md (a b c : Int32) : Int32 := ir_mx (ir_mn a b) (ir_mn (ir_mx a b) c)
def k_fo (y : Nat) (c b a : Int32) : Int32 := if y = 1 then (if a = -2 then -1 else a) else if y = 2 then (if b = -2 then -1 else b) else if c = -2 then -1 else if b = -2 then -1 else if a = -2 then -1 else k_md c b a
def k_fe (K : Nat → Int32) (al : Bool) (m : Nat) (A : Nat → Int32) (y i : Nat) : Int32 := k_fo y (k_ah K al m A i 3) (k_ah K al m A i 2) (k_ah K al m A i 1)
theorem k_md_sw (a b c : Int32) : k_md a b c = k_md c b a := by
  unfold k_md ir_mx ir_mn
  have e : ∀ x y : Int32, x = y ↔ x.toInt = y.toInt := fun x y => Int32.toInt_inj.symm
  simp only [Int32.lt_iff_toInt_lt]
  repeat' split
  all_goals first
    | rfl
    | (rw [e]; omega)
    | omega
theorem k_as_gd {K : Nat → Int32} (h : k_ok K) {i : Nat} (hi : i < k_m K) : k_gd K (k_as K i) := by
  unfold k_as
  split
  · exact k_gd_na (k_ag h (k_qn h hi))
  · exact Or.inl rfl
theorem k_ah_gd {K A : Nat → Int32} (h : k_ok K) {al : Bool} {m i n : Nat} (hA : ∀ j, j < m → k_gd K (A j)) (hi : i < m) (hn : 1 ≤ n) : k_ah K al m A i n = -2 ∨ k_gd K (k_ah K al m A i n) := by
  unfold k_ah
  by_cases h1 : n ≤ i
  · rw [if_pos h1]
    exact Or.inr (hA _ (by omega))
  · rw [if_neg h1]
    cases al
    · rw [if_neg (by decide)]
      by_cases h2 : K 43 = 1
      · rw [if_pos h2]
        exact Or.inr (hA _ (Nat.mod_lt _ (by omega)))
      · rw [if_neg h2]
        by_cases h3 : K 5 = 1 ∧ n - i ≤ k_w K
        · rw [if_pos h3]
          exact Or.inr (h.2.2.2.2.2.2.2.2.2.2.2 _ (by omega))
        · rw [if_neg h3]
          exact Or.inl rfl
    · rw [if_pos rfl]
      exact Or.inl rfl
theorem k_mn_gd {K : Nat → Int32} {a b : Int32} (ha : k_gd K a) (hb : k_gd K b) : k_gd K (ir_mn a b) := by
  unfold ir_mn
  split
  · exact hb
  · exact ha
theorem k_mx_gd {K : Nat → Int32} {a b : Int32} (ha : k_gd K a) (hb : k_gd K b) : k_gd K (ir_mx a b) := by
  unfold ir_mx
  split
  · exact hb
  · exact ha
theorem k_fo_gd {K : Nat → Int32} {y : Nat} {a b c : Int32} (ha : a = -2 ∨ k_gd K a) (hb : b = -2 ∨ k_gd K b) (hc : c = -2 ∨ k_gd K c) : k_gd K (k_fo y c b a) := by
  unfold k_fo
  have w : k_gd K (-1) := Or.inl rfl
  have g : ∀ x : Int32, (x = -2 ∨ k_gd K x) → ¬ x = -2 → k_gd K x := fun x h1 h2 => h1.elim (fun q => absurd q h2) id
  by_cases y1 : y = 1
  · rw [if_pos y1]
    by_cases q : a = -2
    · rw [if_pos q]; exact w
    · rw [if_neg q]; exact g a ha q
  · rw [if_neg y1]
    by_cases y2 : y = 2
    · rw [if_pos y2]
      by_cases q : b = -2
      · rw [if_pos q]; exact w
      · rw [if_neg q]; exact g b hb q
    · rw [if_neg y2]
      by_cases q : c = -2
      · rw [if_pos q]; exact w
      · rw [if_neg q]
        by_cases q2 : b = -2
        · rw [if_pos q2]; exact w
        · rw [if_neg q2]
          by_cases q3 : a = -2
          · rw [if_pos q3]; exact w
          · rw [if_neg q3]
            exact k_mx_gd (k_mn_gd (g c hc q) (g b hb q2)) (k_mn_gd (k_mx_gd (g c hc q) (g b hb q2)) (g a ha q3))
theorem k_fe_gd {K A : Nat → Int32} (h : k_ok K) {al : Bool} {m y i : Nat} (hA : ∀ j, j < m → k_gd K (A j)) (hi : i < m) : k_gd K (k_fe K al m A y i) :=
  k_fo_gd (k_ah_gd h hA hi (by decide)) (k_ah_gd h hA hi (by decide)) (k_ah_gd h hA hi (by decide))
