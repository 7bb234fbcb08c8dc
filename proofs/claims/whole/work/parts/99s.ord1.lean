/-! orders: what falls by a row -/
def k_ak (K : Nat → Int32) (p i : Nat) : Int32 := if k_al K p (nI (k_a K p)) (nI i) = true then nI (k_a K p) else -1
def k_ar (K : Nat → Int32) (r : List Nat) (i : Nat) : Int32 := k_ak K (r.getD i 0) i
def k_ox (K : Nat → Int32) (r : List Nat) (i : Nat) : Int32 := k_wt K (r.getD i 0) (k_fe K false (k_m K) (k_ar K r) (k_y K) i)
def k_oy (K : Nat → Int32) (r : List Nat) (i : Nat) : Int32 := if K 43 = 1 ∧ i < k_y K then 0 else k_ox K r i
def k_os (K : Nat → Int32) (r : List Nat) (n : Nat) : Int32 := k_sm (k_oy K r) n
def k_o1 (K : Nat → Int32) (least : Int32) (ρ : Int32 × Option (Int32 × List Nat)) (r : List Nat) : Int32 × Option (Int32 × List Nat) := (if k_tot (k_row K r) < least then ρ.1 else ρ.1 + nI 1, k_b1 K ρ.2 r)
def k_oc (K : Nat → Int32) (r : List Nat) (p : Nat) : Bool := k_mem K p && !(r.contains p) && !(decide (0 < r.length) && k_ap K (r.getD (r.length - 1) 0) p)
def k_og (K : Nat → Int32) (least : Int32) : Nat → List Nat → Int32 × Option (Int32 × List Nat) → Int32 × Option (Int32 × List Nat)
  | 0, r, ρ => k_o1 K least ρ r
  | k + 1, r, ρ => (List.range (k_n K)).foldl (fun ρ p => if k_oc K r p = true then k_og K least k (r ++ [p]) ρ else ρ) ρ
theorem k_foldf {α β γ : Type} {f : β → List γ} {g : α → γ → α} : ∀ (l : List β) (s : α), (l.flatMap f).foldl g s = l.foldl (fun s x => (f x).foldl g s) s
  | [], _ => rfl
  | x :: l, s => by
    rw [List.flatMap_cons, List.foldl_append, k_foldf l]
    rfl
theorem k_foldc {α β : Type} {f g : α → β → α} : ∀ (l : List β) (s : α), (∀ s x, f s x = g s x) → l.foldl f s = l.foldl g s
  | [], _, _ => rfl
  | x :: l, s, h => by
    rw [List.foldl_cons, List.foldl_cons, h s x]
    exact k_foldc l _ h
theorem k_fold2 {α β γ : Type} {f : α → β → α} {g : γ → β → γ} {h : α → γ} : ∀ (l : List β) (s : α), (∀ s x, h (f s x) = g (h s) x) → h (l.foldl f s) = l.foldl g (h s)
  | [], _, _ => rfl
  | x :: l, s, e => by
    rw [List.foldl_cons, List.foldl_cons, k_fold2 l _ e, e]
theorem k_og_b {K : Nat → Int32} {least : Int32} : ∀ (k : Nat) (r : List Nat) (ρ : Int32 × Option (Int32 × List Nat)), (k_og K least k r ρ).2 = (k_rows (k_n K) (k_ap K) (k_mem K) k r).foldl (k_b1 K) ρ.2
  | 0, _, _ => rfl
  | k + 1, r, ρ => by
    unfold k_og k_rows
    rw [k_foldf]
    refine (k_fold2 (h := Prod.snd) _ ρ (fun s p => ?_)).trans rfl
    show (if k_oc K r p = true then k_og K least k (r ++ [p]) s else s).2 = (if k_oc K r p = true then k_rows (k_n K) (k_ap K) (k_mem K) k (r ++ [p]) else []).foldl (k_b1 K) s.2
    by_cases q : k_oc K r p = true
    · rw [if_pos q, if_pos q]
      exact k_og_b k _ _
    · rw [if_neg q, if_neg q]
      rfl
/-! a queue otherwise -/
def k_rq (K K' : Nat → Int32) : Prop := ∀ k, ¬ (10 ≤ k ∧ k < 18) → K' k = K k
section RQ
variable {K K' A B L : Nat → Int32} {r : List Nat}
theorem k_rq_n (h : k_rq K K') : k_n K' = k_n K ∧ k_g K' = k_g K ∧ k_m K' = k_m K ∧ k_y K' = k_y K ∧ k_w K' = k_w K := by
  unfold k_n k_g k_m k_y k_w
  rw [h 2 (by omega), h 1 (by omega), h 9 (by omega), h 3 (by omega), h 44 (by omega)]
  exact ⟨rfl, rfl, rfl, rfl, rfl⟩
theorem k_rq_wt (h : k_rq K K') (p : Nat) (g : Int32) : k_wt K' p g = k_wt K p g := by unfold k_wt; rw [h _ (by omega)]
theorem k_rq_a (h : k_rq K K') (p : Nat) : k_a K' p = k_a K p := by unfold k_a; rw [h _ (by omega)]
theorem k_rq_ev (h : k_rq K K') {wd : Nat → Int32} : ∀ n, k_ev K' wd n = k_ev K wd n
  | 0 => rfl
  | n + 1 => by
    unfold k_ev k_sp
    rw [h _ (by omega), k_rq_ev h n]
theorem k_rq_al (h : k_rq K K') (p : Nat) (g pl : Int32) : k_al K' p g pl = k_al K p g pl := by
  have e : k_wd K' p g pl = k_wd K p g pl := funext fun w => by
    unfold k_wd
    rw [k_rq_wt h, h (53 + p) (by omega), h (26 + p) (by omega), h 9 (by omega), h (34 + p) (by omega), h 42 (by omega)]
  unfold k_al
  rw [e, k_rq_ev h, h 7 (by omega)]
theorem k_rq_ah (h : k_rq K K') (al : Bool) (m i n : Nat) : k_ah K' al m A i n = k_ah K al m A i n := by
  unfold k_ah
  rw [h 43 (by omega), h 5 (by omega), (k_rq_n h).2.2.2.2, h (45 + (k_w K - (n - i))) (by omega)]
theorem k_rq_as (h : k_rq K K') {i : Nat} : k_as K' i = k_ak K (k_q K' i) i := by
  unfold k_as k_ak
  rw [k_rq_al h, k_rq_a h]
theorem k_row_rq (h8 : r.length ≤ 8) : k_rq K (k_row K r) := fun k hk => if_neg (by omega)
theorem k_row_q (hr : ∀ i, i < r.length → r.getD i 0 < 8) {i : Nat} (hi : i < r.length) : k_q (k_row K r) i = r.getD i 0 := by
  unfold k_q k_row
  rw [if_pos (by omega), show 10 + i - 10 = i by omega, nI_clamp (by have := hr i hi; omega)]
theorem k_fe_cg {al : Bool} {m y i : Nat} (hA : ∀ j, j < m → A j = B j) (hi : i < m) : k_fe K al m A y i = k_fe K al m B y i := by
  unfold k_fe
  rw [k_ah_cg hA hi (by decide), k_ah_cg hA hi (by decide), k_ah_cg hA hi (by decide)]
theorem k_tot_row (hm : r.length = k_m K) (h8 : r.length ≤ 8) (hr : ∀ i, i < r.length → r.getD i 0 < 8) : k_tot (k_row K r) = k_sm (k_ox K r) (k_m K) := by
  have rq := k_row_rq (K := K) h8
  obtain ⟨n1, n2, n3, n4, n5⟩ := k_rq_n rq
  unfold k_tot
  rw [n3]
  refine k_sm_cg _ fun i hi => ?_
  unfold k_fw k_ox k_td
  rw [k_row_q hr (by omega), k_rq_wt rq, n3, n4]
  have : k_fe (k_row K r) false (k_m K) (k_as (k_row K r)) (k_y K) i = k_fe K false (k_m K) (k_ar K r) (k_y K) i := by
    refine (k_fe_cg (B := k_ar K r) (fun j hj => ?_) hi).trans ?_
    · rw [k_rq_as rq, k_row_q hr (by omega)]
      rfl
    · unfold k_fe
      rw [k_rq_ah rq, k_rq_ah rq, k_rq_ah rq]
  rw [this]
theorem k_fe_ln {y i m : Nat} (hy1 : 1 ≤ y) (hy3 : y ≤ 3) (h : ¬ K 43 = 1 ∨ y ≤ i) (hA : ∀ j, j < i → L (3 + j) = A j) (hB : ¬ K 43 = 1 → ∀ b, 1 ≤ b → b ≤ 3 → L (3 - b) = k_bk K A b) : k_fo y (L i) (L (i + 1)) (L (i + 2)) = k_fe K false m A y i := by
  have v : ∀ n, 1 ≤ n → n ≤ 3 → (¬ K 43 = 1 ∨ n ≤ i) → L (i + (3 - n)) = k_ah K false m A i n := fun n h1 h3 hn => by
    unfold k_ah
    by_cases q : n ≤ i
    · rw [if_pos q, show i + (3 - n) = 3 + (i - n) by omega]
      exact hA _ (by omega)
    · have hr := hn.resolve_right q
      have z := hB hr (n - i) (by omega) (by omega)
      unfold k_bk at z
      rw [if_neg hr] at z
      rw [if_neg q, if_neg (by decide), if_neg hr, show i + (3 - n) = 3 - (n - i) by omega]
      exact z
  unfold k_fe k_fo
  have v1 := v 1 (by decide) (by decide) (h.imp id (fun w => by omega))
  rw [show i + (3 - 1) = i + 2 by omega] at v1
  by_cases y1 : y = 1
  · rw [if_pos y1, if_pos y1, v1]
  · have v2 := v 2 (by decide) (by decide) (h.imp id (fun w => by omega))
    rw [show i + (3 - 2) = i + 1 by omega] at v2
    rw [if_neg y1, if_neg y1]
    by_cases y2 : y = 2
    · rw [if_pos y2, if_pos y2, v2]
    · have v3 := v 3 (by decide) (by decide) (h.imp id (fun w => by omega))
      rw [show i + (3 - 3) = i by omega] at v3
      rw [if_neg y2, if_neg y2, v1, v2, v3]
theorem k_fe_pre {y i m : Nat} (hy1 : 1 ≤ y) (hy3 : y ≤ 3) (h : ¬ K 43 = 1 ∨ y ≤ i) (hA : ∀ j, j < i → A j = B j) : k_fe K false m A y i = k_fe K false m B y i := by
  have a := k_fe_ln (K := K) (A := A) (L := fun j => if 3 ≤ j then A (j - 3) else k_bk K A (3 - j)) (m := m) hy1 hy3 h (fun j hj => by
    show (if 3 ≤ 3 + j then A (3 + j - 3) else _) = A j
    rw [if_pos (by omega), show 3 + j - 3 = j by omega]) (fun _ b h1 h3 => by
    show (if 3 ≤ 3 - b then _ else k_bk K A (3 - (3 - b))) = _
    rw [if_neg (by omega), show 3 - (3 - b) = b by omega])
  have b := k_fe_ln (K := K) (A := B) (L := fun j => if 3 ≤ j then A (j - 3) else k_bk K A (3 - j)) (m := m) hy1 hy3 h (fun j hj => by
    show (if 3 ≤ 3 + j then A (3 + j - 3) else _) = B j
    rw [if_pos (by omega), show 3 + j - 3 = j by omega]
    exact hA j hj) (fun hr b h1 h3 => by
    show (if 3 ≤ 3 - b then _ else k_bk K A (3 - (3 - b))) = _
    rw [if_neg (by omega), show 3 - (3 - b) = b by omega]
    unfold k_bk
    rw [if_neg hr, if_neg hr])
  exact a.symm.trans b
theorem k_gl {α : Type} {z : α} {r : List α} {p : α} {i : Nat} (hi : i < r.length) : (r ++ [p]).getD i z = r.getD i z := by
  rw [List.getD_eq_getElem?_getD, List.getD_eq_getElem?_getD, List.getElem?_append_left hi]
theorem k_gr {α : Type} {z : α} {r : List α} {p : α} : (r ++ [p]).getD r.length z = p := by
  rw [List.getD_eq_getElem?_getD, List.getElem?_append_right (Nat.le_refl _), Nat.sub_self]
  rfl
theorem k_ar_pre {p i : Nat} (hi : i < r.length) : k_ar K (r ++ [p]) i = k_ar K r i := by
  unfold k_ar
  rw [k_gl hi]
theorem k_oy_pre (hk : k_ok K) {p i : Nat} (hi : i < r.length) : k_oy K (r ++ [p]) i = k_oy K r i := by
  have hb := k_bds hk
  unfold k_oy
  by_cases q : K 43 = 1 ∧ i < k_y K
  · rw [if_pos q, if_pos q]
  · rw [if_neg q, if_neg q]
    unfold k_ox
    rw [k_gl hi, k_fe_pre hb.2.2.2.2.1 hb.2.2.2.2.2 (by by_cases w : K 43 = 1; exact Or.inr (by have : ¬ i < k_y K := fun z => q ⟨w, z⟩; omega); exact Or.inl w) (fun j hj => k_ar_pre (show j < r.length by omega))]
theorem k_os_s (hk : k_ok K) {p : Nat} : k_os K (r ++ [p]) (r.length + 1) = k_os K r r.length + k_wt K p (if K 43 = 1 ∧ r.length < k_y K then -1 else k_fe K false (k_m K) (k_ar K r) (k_y K) r.length) := by
  have hb := k_bds hk
  unfold k_os
  rw [show k_sm (k_oy K (r ++ [p])) (r.length + 1) = k_sm (k_oy K (r ++ [p])) r.length + k_oy K (r ++ [p]) r.length from rfl, k_sm_cg _ (fun i hi => k_oy_pre hk (p := p) hi)]
  congr 1
  unfold k_oy
  by_cases q : K 43 = 1 ∧ r.length < k_y K
  · rw [if_pos q, if_pos q]
    unfold k_wt
    rw [if_pos rfl]
  · rw [if_neg q, if_neg q]
    unfold k_ox
    rw [k_gr, k_fe_pre hb.2.2.2.2.1 hb.2.2.2.2.2 (by by_cases w : K 43 = 1; exact Or.inr (by have : ¬ r.length < k_y K := fun z => q ⟨w, z⟩; omega); exact Or.inl w) (fun j hj => k_ar_pre (p := p) hj)]
theorem k_os_n (h : ¬ K 43 = 1) (n : Nat) : k_os K r n = k_sm (k_ox K r) n := k_sm_cg _ fun i _ => if_neg (fun q => h q.1)
theorem k_os_r (h : K 43 = 1) : ∀ n, k_os K r n + k_sm (k_ox K r) (min (k_y K) n) = k_sm (k_ox K r) n
  | 0 => by
    rw [Nat.min_zero]
    show (0 : Int32) + 0 = 0
    decide +kernel
  | n + 1 => by
    have ih := k_os_r h n
    unfold k_os at ih ⊢
    show k_sm (k_oy K r) n + k_oy K r n + k_sm (k_ox K r) (min (k_y K) (n + 1)) = k_sm (k_ox K r) n + k_ox K r n
    by_cases q : n < k_y K
    · rw [show k_oy K r n = 0 from if_pos ⟨h, q⟩, Nat.min_eq_right (show n + 1 ≤ k_y K by omega), Int32.add_zero]
      rw [Nat.min_eq_right (show n ≤ k_y K by omega)] at ih
      show k_sm (k_oy K r) n + (k_sm (k_ox K r) n + k_ox K r n) = _
      rw [← Int32.add_assoc, ih]
    · rw [show k_oy K r n = k_ox K r n from if_neg (fun w => q w.2), Nat.min_eq_left (show k_y K ≤ n + 1 by omega)]
      rw [Nat.min_eq_left (show k_y K ≤ n by omega)] at ih
      rw [Int32.add_assoc, Int32.add_comm (k_ox K r n), ← Int32.add_assoc, ih]
end RQ
/-! orders, the class -/
def c_ocP (M : ir_M) : Prop := ir_P M 121 8 = 4 ∧ ir_P M 121 9 = 12 ∧ ir_P M 121 10 = 116
theorem c_ocg {M : ir_M} (hp : q_PI M) (h : c_ocP M) : ir_P M 121 8 = 4 ∧ ir_gp M 121 2 8 = true ∧ ir_P M 121 9 = 12 ∧ ir_gp M 121 2 9 = true ∧ ir_P M 121 10 = 116 ∧ ir_gp M 121 2 10 = true := ⟨h.1, q_gpV hp rfl h.1 rfl, h.2.1, q_gpV hp rfl h.2.1 rfl, h.2.2, q_gpV hp rfl h.2.2 rfl⟩
theorem c_ocP_eq {S : List Nat} {M M' : ir_M} (he : q_eq S M M') (h : c_ocP M) : c_ocP M' := by
  unfold c_ocP ir_P at h ⊢
  rw [he.2]
  exact h
def c_of (M : ir_M) (m : Nat) (ρ : Int32 × Option (Int32 × List Nat)) : Prop := ir_I M 121 3 = ρ.1 ∧ ((ρ.2 = none ∧ ir_I M 121 1 = 0) ∨ (∃ f r, ρ.2 = some (f, r) ∧ ir_I M 121 1 = 1 ∧ ir_I M 121 2 = f ∧ ∀ i, i < m → ir_I M 122 i = nI (r.getD i 0)))
/-- how things lie as the class stands them -/
def c_on (K : Nat → Int32) (least : Int32) (r : List Nat) (M : ir_M) : Prop := c_rl M 12 K ∧ c_ocP M ∧ ir_I M 121 5 = least ∧ c_ap M 4 K ∧ (∀ p i, k_mem K p = true → i < k_m K → ir_I M 124 (8 * p + i) = k_ak K p i) ∧ (∀ i, i < r.length → ir_I M 123 i = nI (r.getD i 0)) ∧ (∀ i, i < r.length → ir_I M 117 (3 + i) = k_ar K r i) ∧ (¬ K 43 = 1 → 0 < k_m K → ∀ b, 1 ≤ b → b ≤ 3 → ir_I M 117 (3 - b) = k_bk K (fun _ => 0) b)
/-- a row so far -/
def k_rw (K : Nat → Int32) (r : List Nat) : Prop := (∀ i, i < r.length → r.getD i 0 < k_n K) ∧ ∀ i j, i < r.length → j < r.length → r.getD i 0 = r.getD j 0 → i = j
theorem k_bk_n {K A B : Nat → Int32} {b : Nat} (h : ¬ K 43 = 1) : k_bk K A b = k_bk K B b := by
  unfold k_bk
  rw [if_neg h, if_neg h]
theorem k_ak_gd {K : Nat → Int32} (hk : k_ok K) {p i : Nat} (hp : p < k_n K) : k_gd K (k_ak K p i) := by
  unfold k_ak
  split
  · exact k_gd_na (k_ag hk hp)
  · exact Or.inl rfl
section OC
variable {K : Nat → Int32} {least : Int32} {r : List Nat} {M : ir_M} {d : Nat}
theorem c_fla (hp : q_PI M) {y i : Nat} (hy : y < 2 ^ 31) (hi : i < 8) : m_X0_fallAt (d + 2) 116 (nI y) (nI i) M = ir_oI (k_fo y (ir_I M 117 i) (ir_I M 117 (i + 1)) (ir_I M 117 (i + 2))) M := by
  rw [E_X0_fallAt]
  simp (disch := omega) only [q_ckt, q_lt, q_cI, q_cJ, q_cV, q_cP, q_xI, q_xV, q_xP, q_xJ, g_gk, g_ga, g_gw, g_gp, g_gq, g_P, g_J, q_I_s, q_I_n, q_I_k, nI_add, pk_sub, pk_mul, nI_clamp, n_lt0, n_0lt, n_eq0, n_lt, n_le, n_eq, n_m1, n_m2, n_m9, n_12, n_19, n_10, n_01, n_1n1, n_0n1, n_1n0, n_0n0, n_dI, n_m1lt, q_inb, n_nar, n_nar0, n_nar1, n_bool, Bool.false_eq_true, Bool.true_eq_false, if_true, if_false, ↓reduceIte, Nat.reduceAdd, Nat.reduceMul, Nat.reduceSub, Nat.reduceLT, Nat.reduceLeDiff, Nat.reduceEqDiff, Nat.reduceMod, Nat.reduceDiv, q_F hp, c_fo hy]
theorem c_flt (h : c_rl M 12 K) (hP : c_ocP M) {i : Nat} (hi : i < 100) : m_X2_fallsLater (d + 1) 121 (nI i) M = ir_oI (if K 43 = 1 ∧ i < k_y K then nI 1 else nI 0) M := by
  have hb := k_bds h.2.2.1
  have h43 := h.2.2.1.2.2.2.2.2.2.2.2.1
  rw [E_X2_fallsLater]
  rcases h43 with e | e
  · simp (disch := omega) only [q_ckt, q_lt, q_cI, q_cJ, q_cV, q_cP, q_xI, q_xV, q_xP, q_xJ, g_gk, g_ga, g_gw, g_gp, g_gq, g_P, g_J, q_I_s, q_I_n, q_I_k, nI_add, pk_sub, pk_mul, nI_clamp, n_lt0, n_0lt, n_eq0, n_lt, n_le, n_eq, n_m1, n_m2, n_m9, n_12, n_19, n_10, n_01, n_1n1, n_0n1, n_1n0, n_0n0, n_dI, n_m1lt, q_inb, n_nar, n_nar0, n_nar1, n_bool, Bool.false_eq_true, Bool.true_eq_false, if_true, if_false, ↓reduceIte, Nat.reduceAdd, Nat.reduceMul, Nat.reduceSub, Nat.reduceLT, Nat.reduceLeDiff, Nat.reduceEqDiff, Nat.reduceMod, Nat.reduceDiv, c_ocg h.1 hP, q_S h.1 (a := 12) (by decide), c_use h, e, n_01]
    rw [if_neg (fun w => w.1)]
  · by_cases q : i < k_y K
    · simp (disch := omega) only [q_ckt, q_lt, q_cI, q_cJ, q_cV, q_cP, q_xI, q_xV, q_xP, q_xJ, g_gk, g_ga, g_gw, g_gp, g_gq, g_P, g_J, q_I_s, q_I_n, q_I_k, nI_add, pk_sub, pk_mul, nI_clamp, n_lt0, n_0lt, n_eq0, n_lt, n_le, n_eq, n_m1, n_m2, n_m9, n_12, n_19, n_10, n_01, n_1n1, n_0n1, n_1n0, n_0n0, n_dI, n_m1lt, q_inb, n_nar, n_nar0, n_nar1, n_bool, Bool.false_eq_true, Bool.true_eq_false, if_true, if_false, ↓reduceIte, Nat.reduceAdd, Nat.reduceMul, Nat.reduceSub, Nat.reduceLT, Nat.reduceLeDiff, Nat.reduceEqDiff, Nat.reduceMod, Nat.reduceDiv, c_ocg h.1 hP, q_S h.1 (a := 12) (by decide), c_use h, e, n_10, q_T h.1, q]
      rw [if_pos ⟨trivial, trivial⟩]
    · simp (disch := omega) only [q_ckt, q_lt, q_cI, q_cJ, q_cV, q_cP, q_xI, q_xV, q_xP, q_xJ, g_gk, g_ga, g_gw, g_gp, g_gq, g_P, g_J, q_I_s, q_I_n, q_I_k, nI_add, pk_sub, pk_mul, nI_clamp, n_lt0, n_0lt, n_eq0, n_lt, n_le, n_eq, n_m1, n_m2, n_m9, n_12, n_19, n_10, n_01, n_1n1, n_0n1, n_1n0, n_0n0, n_dI, n_m1lt, q_inb, n_nar, n_nar0, n_nar1, n_bool, Bool.false_eq_true, Bool.true_eq_false, if_true, if_false, ↓reduceIte, Nat.reduceAdd, Nat.reduceMul, Nat.reduceSub, Nat.reduceLT, Nat.reduceLeDiff, Nat.reduceEqDiff, Nat.reduceMod, Nat.reduceDiv, c_ocg h.1 hP, q_S h.1 (a := 12) (by decide), c_use h, e, n_10, q_T h.1, q]
      rw [if_neg (fun w => w.2)]
theorem c_cl1 (hm : r.length = k_m K) (hw : k_rw K r) (h : c_on K least r M) : ∃ M1, m_X2_close (d + 4) 121 (k_os K r (k_m K)) M = v_X2_close_85 (d + 3) 121 (k_tot (k_row K r)) M1 ∧ q_eq [117] M M1 ∧ c_on K least r M1 := by
  have hk := h.1.2.2.1
  have hb := k_bds hk
  obtain ⟨h1, h2, h3, h4, h5, h6, h7, h8⟩ := h
  have et := k_tot_row (K := K) hm (by omega) (fun i hi => by have := hw.1 i hi; omega)
  by_cases hr : K 43 = 1
  · obtain ⟨M1, e1, q1, a1, b1⟩ := c_lh (d := d + 1) h1 (fun j hj => h7 j (by omega))
    have c1 := c_rl_eq h1 q1 (by decide)
    have P1 := c_ocP_eq q1 h2
    have on1 : c_on K least r M1 := by
      refine ⟨c1, P1, by rw [q_I_eq q1 (by decide)]; exact h3, c_ap_fr (q1.1 _ (by decide)) h4, fun p i hp hi => by rw [q_I_eq q1 (by decide)]; exact h5 p i hp hi, fun i hi => by rw [q_I_eq q1 (by decide)]; exact h6 i hi, fun i hi => by rw [a1 _ (by omega)]; exact h7 i hi, fun w => absurd hr w⟩
    have gA : ∀ j, j < k_m K → k_gd K (k_ar K r j) := fun j hj => k_ak_gd hk (hw.1 j (by omega))
    have L := q_up (σ := ir_M) (V := fun i t => v_X2_close_29 (d + 3) 121 (k_os K r (k_m K) + k_sm (k_ox K r) i) (nI i) t) (N := min (k_y K) (k_m K)) (I := fun _ t => t = M1) (K := fun t => v_X2_close_85 (d + 3) 121 (k_os K r (k_m K) + k_sm (k_ox K r) (min (k_y K) (k_m K))) t) (by
      rintro i t hi rfl
      have him : i < k_m K := by omega
      have hiy : i < k_y K := by omega
      refine ⟨t, rfl, ?_⟩
      have fl := c_flt (d := d + 2) c1 P1 (show i < 100 by omega)
      rw [if_pos ⟨hr, hiy⟩] at fl
      have fa := c_fla (d := d + 1) c1.1 (show k_y K < 2 ^ 31 by omega) (show i < 8 by omega)
      have z := fun n (h1 : 1 ≤ n) (h3 : n ≤ 3) => k_ln_ah (K := K) (A := k_ar K r) (L := fun j => ir_I t 117 j) him h1 h3 (fun j hj => (on1.2.2.2.2.2.2.1 j (by omega))) (fun b h1 h3 => b1 (by omega) b h1 h3)
      have z1 := z 1 (by decide) (by decide)
      have z2 := z 2 (by decide) (by decide)
      have z3 := z 3 (by decide) (by decide)
      rw [show i + (3 - 1) = i + 2 by omega] at z1
      rw [show i + (3 - 2) = i + 1 by omega] at z2
      rw [show i + (3 - 3) = i by omega] at z3
      rw [z1, z2, z3] at fa
      have ri := on1.2.2.2.2.2.1 i (by omega)
      have wt := c_wt (d := d + 2) c1 (hw.1 i (by omega)) (k_fe_gd (al := false) (m := k_m K) (y := k_y K) hk gA him)
      have := hw.1 i (by omega)
      rw [L_X2_close_29]
      simp (disch := omega) only [q_ckt, q_lt, q_cI, q_cJ, q_cV, q_cP, q_xI, q_xV, q_xP, q_xJ, g_gk, g_ga, g_gw, g_gp, g_gq, g_P, g_J, q_I_s, q_I_n, q_I_k, nI_add, pk_sub, pk_mul, nI_clamp, n_lt0, n_0lt, n_eq0, n_lt, n_le, n_eq, n_m1, n_m2, n_m9, n_12, n_19, n_10, n_01, n_1n1, n_0n1, n_1n0, n_0n0, n_dI, n_m1lt, q_inb, n_nar, n_nar0, n_nar1, n_bool, Bool.false_eq_true, Bool.true_eq_false, if_true, if_false, ↓reduceIte, Nat.reduceAdd, Nat.reduceMul, Nat.reduceSub, Nat.reduceLT, Nat.reduceLeDiff, Nat.reduceEqDiff, Nat.reduceMod, Nat.reduceDiv, c_ocg c1.1 P1, q_S c1.1 (a := 12) (by decide), c_use c1, him, q_O c1.1, fl, ri, q_T c1.1, q_F c1.1, fa]
      rw [show k_fo (k_y K) (k_ah K false (k_m K) (k_ar K r) i 3) (k_ah K false (k_m K) (k_ar K r) i 2) (k_ah K false (k_m K) (k_ar K r) i 1) = k_fe K false (k_m K) (k_ar K r) (k_y K) i from rfl]
      simp (disch := omega) only [q_ckt, q_lt, q_cI, q_cJ, q_cV, q_cP, q_xI, q_xV, q_xP, q_xJ, g_gk, g_ga, g_gw, g_gp, g_gq, g_P, g_J, q_I_s, q_I_n, q_I_k, nI_add, pk_sub, pk_mul, nI_clamp, n_lt0, n_0lt, n_eq0, n_lt, n_le, n_eq, n_m1, n_m2, n_m9, n_12, n_19, n_10, n_01, n_1n1, n_0n1, n_1n0, n_0n0, n_dI, n_m1lt, q_inb, n_nar, n_nar0, n_nar1, n_bool, Bool.false_eq_true, Bool.true_eq_false, if_true, if_false, ↓reduceIte, Nat.reduceAdd, Nat.reduceMul, Nat.reduceSub, Nat.reduceLT, Nat.reduceLeDiff, Nat.reduceEqDiff, Nat.reduceMod, Nat.reduceDiv, wt]
      rw [Int32.add_assoc]
      rfl) (by
      rintro t rfl
      rw [L_X2_close_29]
      by_cases q : min (k_y K) (k_m K) < k_m K
      · have fl := c_flt (d := d + 2) c1 P1 (show min (k_y K) (k_m K) < 100 by omega)
        rw [if_neg (fun w => by omega)] at fl
        simp (disch := omega) only [q_ckt, q_lt, q_cI, q_cJ, q_cV, q_cP, q_xI, q_xV, q_xP, q_xJ, g_gk, g_ga, g_gw, g_gp, g_gq, g_P, g_J, q_I_s, q_I_n, q_I_k, nI_add, pk_sub, pk_mul, nI_clamp, n_lt0, n_0lt, n_eq0, n_lt, n_le, n_eq, n_m1, n_m2, n_m9, n_12, n_19, n_10, n_01, n_1n1, n_0n1, n_1n0, n_0n0, n_dI, n_m1lt, q_inb, n_nar, n_nar0, n_nar1, n_bool, Bool.false_eq_true, Bool.true_eq_false, if_true, if_false, ↓reduceIte, Nat.reduceAdd, Nat.reduceMul, Nat.reduceSub, Nat.reduceLT, Nat.reduceLeDiff, Nat.reduceEqDiff, Nat.reduceMod, Nat.reduceDiv, c_ocg c1.1 P1, q_S c1.1 (a := 12) (by decide), c_use c1, q, q_O c1.1, fl]
      · simp (disch := omega) only [q_ckt, q_lt, q_cI, q_cJ, q_cV, q_cP, q_xI, q_xV, q_xP, q_xJ, g_gk, g_ga, g_gw, g_gp, g_gq, g_P, g_J, q_I_s, q_I_n, q_I_k, nI_add, pk_sub, pk_mul, nI_clamp, n_lt0, n_0lt, n_eq0, n_lt, n_le, n_eq, n_m1, n_m2, n_m9, n_12, n_19, n_10, n_01, n_1n1, n_0n1, n_1n0, n_0n0, n_dI, n_m1lt, q_inb, n_nar, n_nar0, n_nar1, n_bool, Bool.false_eq_true, Bool.true_eq_false, if_true, if_false, ↓reduceIte, Nat.reduceAdd, Nat.reduceMul, Nat.reduceSub, Nat.reduceLT, Nat.reduceLeDiff, Nat.reduceEqDiff, Nat.reduceMod, Nat.reduceDiv, c_ocg c1.1 P1, q_S c1.1 (a := 12) (by decide), c_use c1, q]) (i := 0) (t := M1) (by omega) rfl
    obtain ⟨t, rfl, ee⟩ := L
    refine ⟨t, ?_, q1, on1⟩
    rw [k_os_r hr] at ee
    rw [et, ← ee, E_X2_close]
    simp (disch := omega) only [q_ckt, q_lt, q_cI, q_cJ, q_cV, q_cP, q_xI, q_xV, q_xP, q_xJ, g_gk, g_ga, g_gw, g_gp, g_gq, g_P, g_J, q_I_s, q_I_n, q_I_k, nI_add, pk_sub, pk_mul, nI_clamp, n_lt0, n_0lt, n_eq0, n_lt, n_le, n_eq, n_m1, n_m2, n_m9, n_12, n_19, n_10, n_01, n_1n1, n_0n1, n_1n0, n_0n0, n_dI, n_m1lt, q_inb, n_nar, n_nar0, n_nar1, n_bool, Bool.false_eq_true, Bool.true_eq_false, if_true, if_false, ↓reduceIte, Nat.reduceAdd, Nat.reduceMul, Nat.reduceSub, Nat.reduceLT, Nat.reduceLeDiff, Nat.reduceEqDiff, Nat.reduceMod, Nat.reduceDiv, c_ocg h1.1 h2, q_S h1.1 (a := 12) (by decide), c_use h1, hr, n_10, q_F h1.1, e1]
    rw [show k_sm (k_ox K r) 0 = 0 from rfl, Int32.add_zero]
  · have h43 : K 43 = 0 := hk.2.2.2.2.2.2.2.2.1.resolve_right hr
    refine ⟨M, ?_, q_eq.rf _ _, h1, h2, h3, h4, h5, h6, h7, h8⟩
    rw [et, k_os_n hr, E_X2_close]
    simp (disch := omega) only [q_ckt, q_lt, q_cI, q_cJ, q_cV, q_cP, q_xI, q_xV, q_xP, q_xJ, g_gk, g_ga, g_gw, g_gp, g_gq, g_P, g_J, q_I_s, q_I_n, q_I_k, nI_add, pk_sub, pk_mul, nI_clamp, n_lt0, n_0lt, n_eq0, n_lt, n_le, n_eq, n_m1, n_m2, n_m9, n_12, n_19, n_10, n_01, n_1n1, n_0n1, n_1n0, n_0n0, n_dI, n_m1lt, q_inb, n_nar, n_nar0, n_nar1, n_bool, Bool.false_eq_true, Bool.true_eq_false, if_true, if_false, ↓reduceIte, Nat.reduceAdd, Nat.reduceMul, Nat.reduceSub, Nat.reduceLT, Nat.reduceLeDiff, Nat.reduceEqDiff, Nat.reduceMod, Nat.reduceDiv, c_ocg h1.1 h2, q_S h1.1 (a := 12) (by decide), c_use h1, h43]
theorem c_cl (hm : r.length = k_m K) (hw : k_rw K r) {ρ : Int32 × Option (Int32 × List Nat)} (h : c_on K least r M) (hf : c_of M (k_m K) ρ) : ∃ M', m_X2_close (d + 4) 121 (k_os K r (k_m K)) M = ir_oV M' ∧ q_eq [117, 121, 122] M M' ∧ c_on K least r M' ∧ c_of M' (k_m K) (k_o1 K least ρ r) := by
  have hk := h.1.2.2.1
  have hb := k_bds hk
  obtain ⟨M1, e1, q1, on1⟩ := c_cl1 (d := d) hm hw h
  obtain ⟨h1, h2, h3, h4, h5, h6, h7, h8⟩ := on1
  have hf1 : c_of M1 (k_m K) ρ := by
    unfold c_of at hf ⊢
    simp only [q_I_eq q1 (show 121 ∉ [117] by decide), q_I_eq q1 (show 122 ∉ [117] by decide)]
    exact hf
  obtain ⟨T, eT⟩ : ∃ T, T = k_tot (k_row K r) := ⟨_, rfl⟩
  rw [← eT] at e1
  -- counted
  obtain ⟨M2, e2, q2, f2, g2⟩ : ∃ M2, v_X2_close_85 (d + 3) 121 T M1 = v_X2_close_103 (d + 3) 121 T M2 ∧ q_eq [121] M1 M2 ∧ (∀ k, k ≠ 3 → ir_I M2 121 k = ir_I M1 121 k) ∧ ir_I M2 121 3 = (k_o1 K least ρ r).1 := by
    unfold k_o1
    dsimp only
    rw [← eT]
    by_cases q : T < least
    · refine ⟨M1, ?_, q_eq.rf _ _, fun _ _ => rfl, by rw [if_pos q]; exact hf1.1⟩
      rw [L_X2_close_85]
      simp (disch := omega) only [q_ckt, q_lt, q_cI, q_cJ, q_cV, q_cP, q_xI, q_xV, q_xP, q_xJ, g_gk, g_ga, g_gw, g_gp, g_gq, g_P, g_J, q_I_s, q_I_n, q_I_k, nI_add, pk_sub, pk_mul, nI_clamp, n_lt0, n_0lt, n_eq0, n_lt, n_le, n_eq, n_m1, n_m2, n_m9, n_12, n_19, n_10, n_01, n_1n1, n_0n1, n_1n0, n_0n0, n_dI, n_m1lt, q_inb, n_nar, n_nar0, n_nar1, n_bool, Bool.false_eq_true, Bool.true_eq_false, if_true, if_false, ↓reduceIte, Nat.reduceAdd, Nat.reduceMul, Nat.reduceSub, Nat.reduceLT, Nat.reduceLeDiff, Nat.reduceEqDiff, Nat.reduceMod, Nat.reduceDiv, q_O h1.1, h3, q]
    · refine ⟨ir_sI M1 121 3 (ρ.1 + nI 1), ?_, q_eq.sI (by decide), fun k hk' => q_I_k hk', by rw [if_neg q]; exact q_I_s⟩
      rw [L_X2_close_85]
      simp (disch := omega) only [q_ckt, q_lt, q_cI, q_cJ, q_cV, q_cP, q_xI, q_xV, q_xP, q_xJ, g_gk, g_ga, g_gw, g_gp, g_gq, g_P, g_J, q_I_s, q_I_n, q_I_k, nI_add, pk_sub, pk_mul, nI_clamp, n_lt0, n_0lt, n_eq0, n_lt, n_le, n_eq, n_m1, n_m2, n_m9, n_12, n_19, n_10, n_01, n_1n1, n_0n1, n_1n0, n_0n0, n_dI, n_m1lt, q_inb, n_nar, n_nar0, n_nar1, n_bool, Bool.false_eq_true, Bool.true_eq_false, if_true, if_false, ↓reduceIte, Nat.reduceAdd, Nat.reduceMul, Nat.reduceSub, Nat.reduceLT, Nat.reduceLeDiff, Nat.reduceEqDiff, Nat.reduceMod, Nat.reduceDiv, q_O h1.1, h3, q, hf1.1]
  have p2 := q_PI_eq q2 h1.1
  have on2 : ∀ N, q_eq [121, 122] M2 N → ir_I N 121 5 = least → c_on K least r N := fun N qN z5 => by
    have q12 : q_eq [121, 122] M1 N := (q2.sub (by decide)).tr qN
    refine ⟨?_, c_ocP_eq q12 h2, z5, c_ap_fr (q12.1 _ (by decide)) h4, fun p i hp hi => by rw [q_I_eq q12 (by decide)]; exact h5 p i hp hi, fun i hi => by rw [q_I_eq q12 (by decide)]; exact h6 i hi, fun i hi => by rw [q_I_eq q12 (by decide)]; exact h7 i hi, fun a1 a2 b hb1 hb2 => by rw [q_I_eq q12 (by decide)]; exact h8 a1 a2 b hb1 hb2⟩
    exact ⟨q_PI_eq q12 h1.1, h1.2.1, hk, c_td_eq q12 (by decide) h1.2.2.2.1, c_st_eq q12 (by decide) h1.2.2.2.2⟩
  have z5 : ir_I M2 121 5 = least := by rw [f2 5 (by decide)]; exact h3
  obtain ⟨N, eN⟩ : ∃ N, N = ir_cp (ir_sI (ir_sI M2 121 1 (nI 1)) 121 2 T) 123 0 122 0 8 := ⟨_, rfl⟩
  have qN : q_eq [121, 122] M2 N := by
    rw [eN]
    exact ((q_eq.sI (by decide)).tr (q_eq.sI (by decide))).tr (q_eq.cp (by decide))
  have take : v_X2_close_118 (d + 3) 121 T M2 = ir_oV N := by
    have cg : ir_cpg M2 123 (nI 0) 122 (nI 0) (nI 8) = true := q_cpg0 (q_gk0 p2 rfl) (q_gk0 p2 rfl) rfl rfl (by rw [q_ln_eq (by decide)]; decide) (by rw [q_ln_eq (by decide)]; decide) (by decide)
    rw [L_X2_close_118, eN]
    simp (disch := omega) only [q_ckt, q_lt, q_cI, q_cJ, q_cV, q_cP, q_xI, q_xV, q_xP, q_xJ, g_gk, g_ga, g_gw, g_gp, g_gq, g_P, g_J, q_I_s, q_I_n, q_I_k, nI_add, pk_sub, pk_mul, nI_clamp, n_lt0, n_0lt, n_eq0, n_lt, n_le, n_eq, n_m1, n_m2, n_m9, n_12, n_19, n_10, n_01, n_1n1, n_0n1, n_1n0, n_0n0, n_dI, n_m1lt, q_inb, n_nar, n_nar0, n_nar1, n_bool, Bool.false_eq_true, Bool.true_eq_false, if_true, if_false, ↓reduceIte, Nat.reduceAdd, Nat.reduceMul, Nat.reduceSub, Nat.reduceLT, Nat.reduceLeDiff, Nat.reduceEqDiff, Nat.reduceMod, Nat.reduceDiv, q_O p2, show ir_isB (nI 1) = true from rfl, Bool.and_self, g_cg, cg]
  have n5 : ir_I N 121 5 = least := by rw [eN, h_In (by decide), q_I_k (by decide), q_I_k (by decide)]; exact z5
  have n3 : ir_I N 121 3 = (k_o1 K least ρ r).1 := by rw [eN, h_In (by decide), q_I_k (by decide), q_I_k (by decide)]; exact g2
  have ofN : (k_o1 K least ρ r).2 = some (T, r) → c_of N (k_m K) (k_o1 K least ρ r) := fun e => by
    refine ⟨n3, Or.inr ⟨T, r, e, ?_, ?_, fun i hi => ?_⟩⟩
    · rw [eN, h_In (by decide), q_I_k (by decide), q_I_s]
      rfl
    · rw [eN, h_In (by decide), q_I_s]
    · rw [eN, h_Is (by omega), q_I_n (by decide), q_I_n (by decide), q_I_eq q2 (by decide)]
      exact h6 i (by omega)
  have all : ∀ X, v_X2_close_103 (d + 3) 121 T M2 = X → m_X2_close (d + 4) 121 (k_os K r (k_m K)) M = X := fun X hX => by rw [e1, e2]; exact hX
  rcases hf1.2 with ⟨a1, a2⟩ | ⟨f, x, a1, a2, a3, a4⟩
  · have eo : (k_o1 K least ρ r).2 = some (T, r) := by
      unfold k_o1 k_b1
      dsimp only
      rw [a1, eT]
    refine ⟨N, all _ ?_, ((q1.sub (by decide)).tr (q2.sub (by decide))).tr (qN.sub (by decide)), on2 N qN n5, ofN eo⟩
    have m1 : ir_I M2 121 1 = 0 := by rw [f2 1 (by decide)]; exact a2
    rw [L_X2_close_103]
    simp (disch := omega) only [q_ckt, q_lt, q_cI, q_cJ, q_cV, q_cP, q_xI, q_xV, q_xP, q_xJ, g_gk, g_ga, g_gw, g_gp, g_gq, g_P, g_J, q_I_s, q_I_n, q_I_k, nI_add, pk_sub, pk_mul, nI_clamp, n_lt0, n_0lt, n_eq0, n_lt, n_le, n_eq, n_m1, n_m2, n_m9, n_12, n_19, n_10, n_01, n_1n1, n_0n1, n_1n0, n_0n0, n_dI, n_m1lt, q_inb, n_nar, n_nar0, n_nar1, n_bool, Bool.false_eq_true, Bool.true_eq_false, if_true, if_false, ↓reduceIte, Nat.reduceAdd, Nat.reduceMul, Nat.reduceSub, Nat.reduceLT, Nat.reduceLeDiff, Nat.reduceEqDiff, Nat.reduceMod, Nat.reduceDiv, q_O p2, m1]
    exact take
  · have m1 : ir_I M2 121 1 = 1 := by rw [f2 1 (by decide)]; exact a2
    have m2 : ir_I M2 121 2 = f := by rw [f2 2 (by decide)]; exact a3
    by_cases q : f < T
    · have eo : (k_o1 K least ρ r).2 = some (T, r) := by
        unfold k_o1 k_b1
        dsimp only
        rw [a1]
        dsimp only
        rw [← eT, if_pos q]
      refine ⟨N, all _ ?_, ((q1.sub (by decide)).tr (q2.sub (by decide))).tr (qN.sub (by decide)), on2 N qN n5, ofN eo⟩
      rw [L_X2_close_103]
      simp (disch := omega) only [q_ckt, q_lt, q_cI, q_cJ, q_cV, q_cP, q_xI, q_xV, q_xP, q_xJ, g_gk, g_ga, g_gw, g_gp, g_gq, g_P, g_J, q_I_s, q_I_n, q_I_k, nI_add, pk_sub, pk_mul, nI_clamp, n_lt0, n_0lt, n_eq0, n_lt, n_le, n_eq, n_m1, n_m2, n_m9, n_12, n_19, n_10, n_01, n_1n1, n_0n1, n_1n0, n_0n0, n_dI, n_m1lt, q_inb, n_nar, n_nar0, n_nar1, n_bool, Bool.false_eq_true, Bool.true_eq_false, if_true, if_false, ↓reduceIte, Nat.reduceAdd, Nat.reduceMul, Nat.reduceSub, Nat.reduceLT, Nat.reduceLeDiff, Nat.reduceEqDiff, Nat.reduceMod, Nat.reduceDiv, q_O p2, m1, n_10, m2, q]
      exact take
    · have eo : (k_o1 K least ρ r).2 = some (f, x) := by
        unfold k_o1 k_b1
        dsimp only
        rw [a1]
        dsimp only
        rw [← eT, if_neg q]
      refine ⟨M2, all _ ?_, (q1.sub (by decide)).tr (q2.sub (by decide)), on2 M2 (q_eq.rf _ _) z5, g2, Or.inr ⟨f, x, eo, m1, m2, fun i hi => by rw [q_I_eq q2 (by decide)]; exact a4 i hi⟩⟩
      rw [L_X2_close_103]
      simp (disch := omega) only [q_ckt, q_lt, q_cI, q_cJ, q_cV, q_cP, q_xI, q_xV, q_xP, q_xJ, g_gk, g_ga, g_gw, g_gp, g_gq, g_P, g_J, q_I_s, q_I_n, q_I_k, nI_add, pk_sub, pk_mul, nI_clamp, n_lt0, n_0lt, n_eq0, n_lt, n_le, n_eq, n_m1, n_m2, n_m9, n_12, n_19, n_10, n_01, n_1n1, n_0n1, n_1n0, n_0n0, n_dI, n_m1lt, q_inb, n_nar, n_nar0, n_nar1, n_bool, Bool.false_eq_true, Bool.true_eq_false, if_true, if_false, ↓reduceIte, Nat.reduceAdd, Nat.reduceMul, Nat.reduceSub, Nat.reduceLT, Nat.reduceLeDiff, Nat.reduceEqDiff, Nat.reduceMod, Nat.reduceDiv, q_O p2, m1, n_10, m2, q]
end OC
