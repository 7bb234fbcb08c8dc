/-! a day -/
theorem k_okS_cg2 {K K' : Nat → Int32} (hn8 : k_n K ≤ 8) (h : ∀ k, k < 53 → k ≠ 8 → ¬ (26 ≤ k ∧ k < 43) → K' k = K k) (hk : k_okS K) : k_okS K' := by
  obtain ⟨K0, e0⟩ : ∃ K0 : Nat → Int32, K0 = fun k => if 26 ≤ k ∧ k < 43 then K k else K' k := ⟨_, rfl⟩
  have h0 : k_okS K0 := k_okS_cg hn8 (fun k h1 h2 => by
    rw [e0]
    by_cases q : 26 ≤ k ∧ k < 43
    · exact if_pos q
    · exact (if_neg q).trans (h k h1 h2 q)) hk
  have f : ∀ k, ¬ (26 ≤ k ∧ k < 43) → K' k = K0 k := fun k q => by rw [e0]; exact (if_neg q).symm
  have eg : k_g K' = k_g K0 := by unfold k_g; rw [f 1 (by omega)]
  have en : k_n K' = k_n K0 := by unfold k_n; rw [f 2 (by omega)]
  have ew : k_w K' = k_w K0 := by unfold k_w; rw [f 44 (by omega)]
  have em : k_m K' = k_m K0 := by unfold k_m; rw [f 9 (by omega)]
  have en0 : k_n K0 ≤ 8 := by
    have : k_n K0 = k_n K := by rw [← en]; unfold k_n; rw [h 2 (by omega) (by omega) (by omega)]
    omega
  obtain ⟨s1, s2, s3, s4, s5, s6, s7, s8, s9, s10, s11⟩ := h0
  have eq : ∀ i, i < k_m K0 → k_q K' i = k_q K0 i := fun i hi => by unfold k_q; rw [f _ (by omega)]
  have ea : ∀ p, p < k_n K0 → k_a K' p = k_a K0 p := fun p hp => by unfold k_a; rw [f _ (by omega)]
  unfold k_okS
  rw [en, ew, em, eg, f 9 (by omega), f 43 (by omega), f 44 (by omega)]
  refine ⟨s1, s2, fun i hi => ?_, fun i hi => ?_, fun i j hi hj e => ?_, fun p hp => ?_, fun p hp => ?_, s8, s9, s10, fun i hi => ?_⟩
  · rw [eq i hi, f _ (by omega)]
    exact s3 i hi
  · rw [eq i hi]
    exact s4 i hi
  · rw [eq i hi, eq j hj] at e
    exact s5 i j hi hj e
  · rw [ea p hp, f _ (by omega)]
    exact s6 p hp
  · rw [ea p hp]
    exact s7 p hp
  · rw [f _ (by omega)]
    unfold k_gd
    rw [eg]
    exact s11 i hi
/-- totals up to a place -/
def k_dt (K : Nat → Int32) (x : Nat) : Nat → Int32 := fun k => if 34 ≤ k ∧ k < 42 then (match k_pl K (k - 34) with
    | some i => if i < x then K k + k_fw K (k_td K) i else K k
    | none => K k) else K k
def k_d1 (K : Nat → Int32) : Nat → Int32 := fun k => if k = 42 then K 42 + nI 1 else if k = 44 then nI (k_m K) else if 45 ≤ k ∧ k < 53 then (if k - 45 < k_m K then k_as K (k - 45) else 0) else k_dt K (k_m K) k
def k_bad (K : Nat → Int32) (p : Nat) : Bool := decide (0 < K 4) && !(decide (-(K 4) < K (34 + p)))
def k_rf : Nat → (Nat → Int32) → Nat → (Nat → Int32)
  | 0, K, _ => K
  | r + 1, K, x => if k_bad K (k_q K x) = true then k_rf r (k_out K x) x else k_rf r K (x + 1)
def k_rb : Nat → (Nat → Int32) → (Nat → Int32)
  | 0, K => K
  | x + 1, K => if k_bad K (k_q K x) = true then k_rb x (k_out K x) else k_rb x K
def k_day (K : Nat → Int32) : Nat → Int32 := k_rf (k_m K) (k_d1 K) 0
theorem k_dt_o {K : Nat → Int32} {x k : Nat} (h : ¬ (34 ≤ k ∧ k < 42)) : k_dt K x k = K k := if_neg h
theorem k_dt_s {K : Nat → Int32} (hk : k_ok K) {x k : Nat} (hx : x < k_m K) : k_dt K (x + 1) k = if k = 34 + k_q K x then K k + k_fw K (k_td K) x else k_dt K x k := by
  have hb := k_bds hk
  have hq := k_qn hk hx
  unfold k_dt
  by_cases q : 34 ≤ k ∧ k < 42
  · rw [if_pos q, if_pos q]
    by_cases q2 : k = 34 + k_q K x
    · rw [if_pos q2, show k - 34 = k_q K x by omega, k_pl_q hk hx]
      exact if_pos (by omega)
    · rw [if_neg q2]
      cases e : k_pl K (k - 34) with
      | none => rfl
      | some i =>
        have := k_pl_some e
        have hne : i ≠ x := fun w => by rw [w] at this; omega
        by_cases q3 : i < x
        · show (if i < x + 1 then _ else _) = if i < x then _ else _
          rw [if_pos q3, if_pos (by omega)]
        · show (if i < x + 1 then _ else _) = if i < x then _ else _
          rw [if_neg q3, if_neg (by omega)]
  · rw [if_neg q, if_neg q, if_neg (by omega)]
theorem k_dt_q {K : Nat → Int32} (hk : k_ok K) {x : Nat} (hx : x < k_m K) : k_dt K x (34 + k_q K x) = K (34 + k_q K x) := by
  have hb := k_bds hk
  have hq := k_qn hk hx
  unfold k_dt
  rw [if_pos (by omega), show 34 + k_q K x - 34 = k_q K x by omega, k_pl_q hk hx]
  exact if_neg (by omega)
theorem k_dt_ok {K : Nat → Int32} (hk : k_ok K) (x : Nat) : k_ok (k_dt K x) := ⟨k_okT_cg (fun k h1 _ => k_dt_o (by omega)) (fun k h1 => k_dt_o (by omega)) hk.1, k_okS_cg2 (k_bds hk).2.1 (fun k h1 h2 h3 => k_dt_o (by omega)) hk.2⟩
theorem k_dt_m {K : Nat → Int32} {x : Nat} : k_m (k_dt K x) = k_m K ∧ k_n (k_dt K x) = k_n K ∧ k_g (k_dt K x) = k_g K := by
  refine ⟨?_, ?_, ?_⟩
  · unfold k_m; rw [k_dt_o (by omega)]
  · unfold k_n; rw [k_dt_o (by omega)]
  · unfold k_g; rw [k_dt_o (by omega)]
theorem k_dt_fw {K Fl : Nat → Int32} (hk : k_ok K) {x i : Nat} (hi : i < k_m K) : k_fw (k_dt K x) Fl i = k_fw K Fl i := by
  have hb := k_bds hk
  unfold k_fw k_wt
  have : k_q (k_dt K x) i = k_q K i := by unfold k_q; rw [k_dt_o (by omega)]
  rw [this, k_dt_o (by omega)]
theorem k_d1_o {K : Nat → Int32} {k : Nat} (h : k < 34 ∨ k = 43 ∨ 53 ≤ k) : k_d1 K k = K k := by
  unfold k_d1
  rw [if_neg (by omega), if_neg (by omega), if_neg (by omega), k_dt_o (by omega)]
theorem k_d1_ok {K : Nat → Int32} (hk : k_ok K) : k_ok (k_d1 K) := by
  have hb := k_bds hk
  refine ⟨k_okT_cg (fun k h1 _ => k_d1_o (by omega)) (fun k h1 => k_d1_o (by omega)) hk.1, ?_⟩
  have eg : k_g (k_d1 K) = k_g K := by unfold k_g; rw [k_d1_o (by omega)]
  have en : k_n (k_d1 K) = k_n K := by unfold k_n; rw [k_d1_o (by omega)]
  have em : k_m (k_d1 K) = k_m K := by unfold k_m; rw [k_d1_o (by omega)]
  have e44 : k_d1 K 44 = nI (k_m K) := rfl
  have ew : k_w (k_d1 K) = k_m K := by
    show (k_d1 K 44).toNatClampNeg = _
    rw [e44, nI_clamp (by omega)]
  obtain ⟨s1, s2, s3, s4, s5, s6, s7, s8, s9, s10, s11⟩ := hk.2
  have eq : ∀ i, i < k_m K → k_q (k_d1 K) i = k_q K i := fun i hi => by unfold k_q; rw [k_d1_o (by omega)]
  have ea : ∀ p, p < k_n K → k_a (k_d1 K) p = k_a K p := fun p hp => by unfold k_a; rw [k_d1_o (by omega)]
  unfold k_okS
  rw [en, ew, em, eg, k_d1_o (k := 9) (by omega), k_d1_o (k := 43) (by omega), e44]
  refine ⟨s1, s2, fun i hi => ?_, fun i hi => ?_, fun i j hi hj e => ?_, fun p hp => ?_, fun p hp => ?_, s8, rfl, by omega, fun i hi => ?_⟩
  · rw [eq i hi, k_d1_o (by omega)]
    exact s3 i hi
  · rw [eq i hi]
    exact s4 i hi
  · rw [eq i hi, eq j hj] at e
    exact s5 i j hi hj e
  · rw [ea p hp, k_d1_o (by omega)]
    exact s6 p hp
  · rw [ea p hp]
    exact s7 p hp
  · have : k_d1 K (45 + i) = k_as K i := by
      unfold k_d1
      rw [if_neg (by omega), if_neg (by omega), if_pos (by omega), if_pos (by omega), show 45 + i - 45 = i by omega]
    rw [this]
    unfold k_gd
    rw [eg]
    exact k_as_gd hk hi
/-! the queue as a row -/
def k_sq (K : Nat → Int32) (m : Nat) (l : List Nat) : Nat → Int32 := fun k => if k = 9 then nI l.length else if 10 ≤ k ∧ k < 10 + l.length then nI (l.getD (k - 10) 0) else if 10 ≤ k ∧ k < 10 + m then 0 else K k
def k_ql (K : Nat → Int32) : List Nat := (List.range (k_m K)).map (k_q K)
theorem k_ql_len {K : Nat → Int32} : (k_ql K).length = k_m K := by unfold k_ql; simp
theorem k_ql_get {K : Nat → Int32} {i : Nat} (h : i < k_m K) : (k_ql K).getD i 0 = k_q K i := by
  unfold k_ql
  rw [List.getD_eq_getElem?_getD, List.getElem?_map, List.getElem?_range h]
  rfl
theorem k_sq_self {K : Nat → Int32} (hk : k_ok K) : k_sq K (k_m K) (k_ql K) = K := funext fun k => by
  have hb := k_bds hk
  unfold k_sq
  rw [k_ql_len]
  by_cases q : k = 9
  · rw [if_pos q, q, (k_use hk).2.2.2.1]
  · rw [if_neg q]
    by_cases q2 : 10 ≤ k ∧ k < 10 + k_m K
    · rw [if_pos q2, k_ql_get (by omega), ← (k_use hk).2.2.2.2.2.1 (k - 10) (by omega), show 10 + (k - 10) = k by omega]
    · rw [if_neg q2, if_neg q2]
theorem k_sq_m {K : Nat → Int32} {m : Nat} {l : List Nat} (h : l.length ≤ 8) : k_m (k_sq K m l) = l.length := by
  show (nI l.length).toNatClampNeg = _
  exact nI_clamp (by omega)
theorem k_sq_q {K : Nat → Int32} {m : Nat} {l : List Nat} (hl : ∀ p ∈ l, p < 8) {i : Nat} (h : i < l.length) : k_q (k_sq K m l) i = l.getD i 0 := by
  unfold k_q k_sq
  rw [if_neg (by omega), if_pos (by omega), show 10 + i - 10 = i by omega, nI_clamp]
  have : l.getD i 0 ∈ l := by
    rw [List.getD_eq_getElem?_getD, List.getElem?_eq_getElem h]
    exact List.getElem_mem h
  have := hl _ this
  omega
theorem k_sq_out {K : Nat → Int32} {m : Nat} {l : List Nat} (h8 : l.length ≤ 8) (hm : l.length ≤ m) {x : Nat} (hx : x < l.length) : k_out (k_sq K m l) x = k_sq K m (l.eraseIdx x) := funext fun k => by
  have em := k_sq_m (K := K) (m := m) h8
  have el : (l.eraseIdx x).length = l.length - 1 := List.length_eraseIdx_of_lt hx
  have eg : ∀ i, (l.eraseIdx x).getD i 0 = if i < x then l.getD i 0 else l.getD (i + 1) 0 := fun i => by
    rw [List.getD_eq_getElem?_getD, List.getElem?_eraseIdx]
    by_cases q : i < x
    · rw [if_pos q, if_pos q, List.getD_eq_getElem?_getD]
    · rw [if_neg q, if_neg q, List.getD_eq_getElem?_getD]
  have I : ∀ (l : List Nat) (k : Nat), 10 ≤ k ∧ k < 10 + l.length → k_sq K m l k = nI (l.getD (k - 10) 0) := fun l k h => by unfold k_sq; rw [if_neg (by omega), if_pos h]
  have Z : ∀ (l : List Nat) (k : Nat), 10 + l.length ≤ k ∧ k < 10 + m → k_sq K m l k = 0 := fun l k h => by unfold k_sq; rw [if_neg (by omega), if_neg (by omega), if_pos (by omega)]
  have O : ∀ (l : List Nat) (k : Nat), l.length ≤ m → k ≠ 9 → ¬ (10 ≤ k ∧ k < 10 + m) → k_sq K m l k = K k := fun l k h1 h2 h3 => by unfold k_sq; rw [if_neg h2, if_neg (by omega), if_neg h3]
  have N : ∀ (l : List Nat), k_sq K m l 9 = nI l.length := fun l => rfl
  unfold k_out
  rw [em]
  by_cases q1 : k = 9
  · rw [if_pos q1, q1, N, el]
  · rw [if_neg q1]
    by_cases q2 : 10 + x ≤ k ∧ k < 10 + (l.length - 1)
    · rw [if_pos q2, I l _ (by omega), I _ k (by omega), eg, if_neg (by omega), show k + 1 - 10 = k - 10 + 1 by omega]
    · rw [if_neg q2]
      by_cases q3 : k = 10 + (l.length - 1)
      · rw [if_pos q3, Z _ k (by omega)]
      · rw [if_neg q3]
        by_cases q4 : 10 ≤ k ∧ k < 10 + l.length
        · rw [I l k q4, I _ k (by omega), eg, if_pos (by omega)]
        · by_cases q5 : 10 ≤ k ∧ k < 10 + m
          · rw [Z l k (by omega), Z _ k (by omega)]
          · rw [O l k hm q1 q5, O _ k (by omega) q1 q5]
theorem k_sq_bad {K : Nat → Int32} {m : Nat} {l : List Nat} (h8 : l.length ≤ 8) (hm : m ≤ 8) {p : Nat} : k_bad (k_sq K m l) p = k_bad K p := by
  unfold k_bad
  have e4 : k_sq K m l 4 = K 4 := by unfold k_sq; rw [if_neg (by omega), if_neg (by omega), if_neg (by omega)]
  have e34 : k_sq K m l (34 + p) = K (34 + p) := by unfold k_sq; rw [if_neg (by omega), if_neg (by omega), if_neg (by omega)]
  rw [e4, e34]
theorem k_rf_sq {K : Nat → Int32} {m : Nat} (hm : m ≤ 8) : ∀ (R F : List Nat), (F ++ R).length ≤ m → (∀ p ∈ F ++ R, p < 8) → k_rf R.length (k_sq K m (F ++ R)) F.length = k_sq K m (F ++ R.filter (fun p => !(k_bad K p)))
  | [], F, _, _ => by simp only [List.length_nil, List.filter_nil]; rfl
  | a :: R, F, hl, hp => by
    have h8 : (F ++ a :: R).length ≤ 8 := by omega
    have hx : F.length < (F ++ a :: R).length := by simp
    have hq : k_q (k_sq K m (F ++ a :: R)) F.length = a := by
      rw [k_sq_q hp hx, List.getD_eq_getElem?_getD]
      simp
    show (if k_bad (k_sq K m (F ++ a :: R)) (k_q (k_sq K m (F ++ a :: R)) F.length) = true then k_rf R.length (k_out (k_sq K m (F ++ a :: R)) F.length) F.length else k_rf R.length (k_sq K m (F ++ a :: R)) (F.length + 1)) = _
    rw [hq, k_sq_bad h8 hm]
    cases e : k_bad K a
    · rw [if_neg (by decide), List.filter_cons_of_pos (by rw [e]; rfl)]
      have := k_rf_sq (K := K) hm R (F ++ [a]) (by simpa using hl) (by simpa using hp)
      simpa using this
    · rw [if_pos rfl, k_sq_out h8 hl hx, List.eraseIdx_append_of_length_le (Nat.le_refl _), Nat.sub_self, List.filter_cons_of_neg (by rw [e]; decide)]
      exact k_rf_sq hm R F (by simp only [List.length_append, List.length_cons, List.eraseIdx_cons_zero] at hl ⊢; omega) (fun p h => hp p (by simp only [List.mem_append, List.mem_cons, List.eraseIdx_cons_zero] at h ⊢; exact h.imp id Or.inr))
theorem k_rb_sq {K : Nat → Int32} {m : Nat} (hm : m ≤ 8) : ∀ (n : Nat) (P G : List Nat), P.length = n → (P ++ G).length ≤ m → (∀ p ∈ P ++ G, p < 8) → k_rb n (k_sq K m (P ++ G)) = k_sq K m (P.filter (fun p => !(k_bad K p)) ++ G)
  | 0, P, G, hn, _, _ => by
    have : P = [] := List.eq_nil_of_length_eq_zero hn
    subst this
    rfl
  | n + 1, P, G, hn, hl, hp => by
    obtain ⟨P', a, rfl⟩ : ∃ P' a, P = P' ++ [a] := by
      rcases List.eq_nil_or_concat P with q | ⟨P', a, q⟩
      · rw [q] at hn; simp at hn
      · exact ⟨P', a, by rw [q, List.concat_eq_append]⟩
    have hn' : P'.length = n := by simpa using hn
    rw [List.append_assoc] at hl hp ⊢
    have h8 : (P' ++ ([a] ++ G)).length ≤ 8 := by omega
    have hx : n < (P' ++ ([a] ++ G)).length := by simp; omega
    have hq : k_q (k_sq K m (P' ++ ([a] ++ G))) n = a := by
      rw [k_sq_q hp hx, List.getD_eq_getElem?_getD, ← hn']
      simp
    show (if k_bad (k_sq K m (P' ++ ([a] ++ G))) (k_q (k_sq K m (P' ++ ([a] ++ G))) n) = true then k_rb n (k_out (k_sq K m (P' ++ ([a] ++ G))) n) else k_rb n (k_sq K m (P' ++ ([a] ++ G)))) = _
    rw [hq, k_sq_bad h8 hm, List.filter_append]
    cases e : k_bad K a
    · rw [if_neg (by decide), k_rb_sq hm n P' ([a] ++ G) hn' hl hp, List.filter_cons_of_pos (by rw [e]; rfl), List.filter_nil, List.append_assoc]
    · rw [if_pos rfl, k_sq_out h8 hl hx, List.eraseIdx_append_of_length_le (by omega), show n - P'.length = 0 by omega, List.filter_cons_of_neg (by rw [e]; decide), List.filter_nil, List.append_nil]
      exact k_rb_sq hm n P' G hn' (by simp only [List.length_append, List.length_cons, List.length_nil] at hl ⊢; omega) (fun p h => hp p (by simp only [List.mem_append] at h ⊢; exact h.imp id Or.inr))
theorem k_rfb {K : Nat → Int32} (hk : k_ok K) : k_rb (k_m K) K = k_rf (k_m K) K 0 := by
  have hb := k_bds hk
  have hp : ∀ p ∈ k_ql K, p < 8 := fun p h => by
    unfold k_ql at h
    obtain ⟨i, hi, rfl⟩ := List.mem_map.mp h
    have := k_qn hk (List.mem_range.mp hi)
    omega
  have e1 := k_rb_sq (K := K) (m := k_m K) (by omega) (k_m K) (k_ql K) [] k_ql_len (by rw [List.append_nil, k_ql_len]; exact Nat.le_refl _) (by rw [List.append_nil]; exact hp)
  have e2 := k_rf_sq (K := K) (m := k_m K) (by omega) (k_ql K) [] (by rw [List.nil_append, k_ql_len]; exact Nat.le_refl _) (by rw [List.nil_append]; exact hp)
  rw [List.append_nil, List.append_nil, k_sq_self hk] at e1
  rw [List.nil_append, List.nil_append, k_sq_self hk, k_ql_len] at e2
  exact e1.trans e2.symm
