/-! THE INVARIANT between calls -/
def k_put (K F : Nat → Int32) : Nat → Int32 := fun k => if 9 ≤ k ∧ k < 53 then F (k - 9) else K k
def k_un (K : Nat → Int32) (i : Nat) : Nat → Int32 := fun j => K (189 + 44 * i + j)
def k_nd (K : Nat → Int32) : Nat := (K 8).toNatClampNeg
def k_na (K : Nat → Int32) : Nat := (K 6).toNatClampNeg
/-- two that stand apart -/
def k_ap (K : Nat → Int32) (p q : Nat) : Bool := (List.range (k_na K)).any (fun k => (decide (K (173 + 2 * k) = nI p) && decide (K (173 + 2 * k + 1) = nI q)) || (decide (K (173 + 2 * k) = nI q) && decide (K (173 + 2 * k + 1) = nI p)))
def k_wf (K : Nat → Int32) : Prop := k_ok K ∧ (K 8 = nI (k_nd K) ∧ k_nd K ≤ 12 ∧ ∀ i, i < k_nd K → k_okS (k_put K (k_un K i))) ∧ (K 6 = nI (k_na K) ∧ k_na K ≤ 8 ∧ ∀ k, k < k_na K → ∃ p q : Nat, p < k_n K ∧ q < k_n K ∧ K (173 + 2 * k) = nI p ∧ K (173 + 2 * k + 1) = nI q) ∧ (∃ r : Nat, r ≤ 999 ∧ K 4 = nI r ∧ (∀ k, 61 ≤ k → k < 109 → -99 ≤ (K k).toInt ∧ (K k).toInt ≤ 99) ∧ ∀ k, 1640 ≤ k → K k = 0)
/-- what falls to all today -/
def k_tot (K : Nat → Int32) : Int32 := k_sm (k_fw K (k_td K)) (k_m K)
/-- the queue laid otherwise -/
def k_row (K : Nat → Int32) (r : List Nat) : Nat → Int32 := fun k => if 10 ≤ k ∧ k < 10 + r.length then nI (r.getD (k - 10) 0) else K k
def k_rows (n : Nat) (ap : Nat → Nat → Bool) (mem : Nat → Bool) : Nat → List Nat → List (List Nat)
  | 0, r => [r]
  | k + 1, r => (List.range n).flatMap (fun p => if mem p && !(r.contains p) && !(decide (0 < r.length) && ap (r.getD (r.length - 1) 0) p) then k_rows n ap mem k (r ++ [p]) else [])
def k_mem (K : Nat → Int32) (p : Nat) : Bool := (k_pl K p).isSome
def k_ors (K : Nat → Int32) : List (List Nat) := k_rows (k_n K) (k_ap K) (k_mem K) (k_m K) []
def k_b1 (K : Nat → Int32) (b : Option (Int32 × List Nat)) (r : List Nat) : Option (Int32 × List Nat) := match b with
  | none => some (k_tot (k_row K r), r)
  | some (f, x) => if f < k_tot (k_row K r) then some (k_tot (k_row K r), r) else some (f, x)
def k_bo (K : Nat → Int32) : Option (Int32 × List Nat) := (k_ors K).foldl (k_b1 K) none
/-- the class's told, with those apart -/
def c_ap (M : ir_M) (t : Nat) (K : Nat → Int32) : Prop := ∀ p, p < k_n K → ∃ x : Nat, x < 256 ∧ ir_I M (t + 2) p = nI x ∧ ∀ q, q < 8 → x.testBit q = k_ap K p q
def c_un (M : ir_M) (a : Nat) (K : Nat → Int32) : Prop := ir_I M a 2 = K 8 ∧ ∃ e : Nat, e < 12 ∧ ir_I M a 3 = nI e ∧ (∀ i, i < k_nd K → c_st M (a + 16 + 6 * ((e + i) % 12)) (k_put K (k_un K i))) ∧ ∀ x, x < 12 → (ir_I M (a + 16 + 6 * x) 2 = 0 ∨ ir_I M (a + 16 + 6 * x) 2 = 1)
def c_sc (M : ir_M) (a : Nat) (K : Nat → Int32) : Prop := c_tdT M (a + 1) K ∧ c_ap M (a + 1) K ∧ c_st M (a + 9) K ∧ c_un M a K
def q_l1 (a : Nat) : Bool := (Nat.ble 3 a && Nat.ble a 90 && !(Nat.beq a 9)) || Nat.beq a 413
def q_l2 (a k : Nat) : Bool := Nat.beq a 2 || Nat.beq a 98 || Nat.beq a 115 || (Nat.ble 140 a && Nat.ble a 411 && !(Nat.beq a 146) && !(Nat.beq a 234) && !(Nat.beq a 322)) || Nat.beq a 415 || Nat.beq a 416 || Nat.beq a 417 || Nat.beq a 433 || Nat.beq a 434 || (Nat.beq a 1 && Nat.ble 1 k && Nat.ble k 3) || (Nat.beq a 412 && (Nat.beq k 6 || Nat.beq k 14 || Nat.beq k 15))
def q_l2j (a : Nat) : Bool := Nat.beq a 405 || Nat.beq a 407 || Nat.beq a 409 || Nat.beq a 411 || Nat.beq a 435
def q_l3 (a k : Nat) : Bool := (Nat.beq a 121 && Nat.ble k 2) || Nat.beq a 122
def q_v1 (M M' : ir_M) : Prop := ∀ a, q_l1 a = true → M'.1 a = M.1 a
def q_v2 (M M' : ir_M) : Prop := (∀ a k, q_l2 a k = true → M'.1 a k = M.1 a k) ∧ ∀ a, q_l2j a = true → M'.2.1 a = M.2.1 a
def q_v3 (M M' : ir_M) : Prop := ∀ a k, q_l3 a k = true → M'.1 a k = M.1 a k
/-- structure kept, k thrown -/
def q_go (k : Nat) (M M' : ir_M) : Prop := q_PI M' ∧ (∀ a, 1000000 ≤ a → M'.1 a = M.1 a ∧ M'.2.1 a = M.2.1 a ∧ M'.2.2.1 a = M.2.2.1 a) ∧ ir_nc M' ≤ ir_nc M + k ∧ ir_ns M' ≤ ir_ns M + 6 * k
def q_st (k : Nat) (M M' : ir_M) : Prop := q_go k M M' ∧ q_v1 M M' ∧ q_v2 M M' ∧ q_v3 M M'
def c_I1 (M : ir_M) : Prop := k_wf (M.1 413) ∧ c_sc M 3 (M.1 413)
def k_im (M : ir_M) (i : Nat) : Nat → Int32 := fun k => if k < 1640 then M.1 415 (1640 * i + k) else 0
def c_ty (M : ir_M) (i : Nat) : Prop := (ir_I M (404 + 2 * i) 0 = 1 ∧ ir_I M 433 i = -1) ∨ (ir_I M (404 + 2 * i) 0 = 0 ∧ ∃ so mn : Nat, so < 4 ∧ mn ≤ 30 ∧ ir_I M (404 + 2 * i) 2 = nI so ∧ ir_I M 433 i = nI so ∧ ir_I M (404 + 2 * i) 1 = nI mn ∧ ir_I M 434 i = nI mn ∧ ∀ k, k < mn → ir_J M (405 + 2 * i) k = ir_J M 435 (30 * i + k))
/-- the words -/
def c_ls (M : ir_M) : Prop := ∀ k, k < 118 → ir_I M 115 k = (ir_byt 0).getD k 0
def c_I2 (M : ir_M) : Prop := (∀ i, i < 3 → (ir_I M 98 i = 0 ∧ ir_I M 416 i = 0) ∨ (ir_I M 98 i = 1 ∧ ir_I M 416 i = 1 ∧ k_wf (k_im M i) ∧ c_sc M (140 + 88 * i) (k_im M i))) ∧ (∀ i, i < 4 → c_ty M i)
  ∧ (∃ tp : Nat, tp ≤ 900 ∧ ir_I M 1 1 = nI tp ∧ ir_I M 412 6 = nI tp ∧ ∀ k, k < tp → ∃ b : Nat, b < 256 ∧ ir_I M 417 k = nI b ∧ ir_I M 2 k = (nI b).toInt8.toInt32) ∧ ir_I M 1 2 = ir_I M 412 14 ∧ ir_I M 1 3 = ir_I M 412 15 ∧ c_ls M
def c_ob (M : ir_M) (K : Nat → Int32) : Prop := (k_bo K = none ∧ ir_I M 121 1 = 0) ∨ (∃ f r, k_bo K = some (f, r) ∧ ir_I M 121 1 = 1 ∧ ir_I M 121 2 = f ∧ ∀ i, i < k_m K → ir_I M 122 i = nI (r.getD i 0))
def c_I3 (M : ir_M) : Prop := ir_I M 121 0 = 0 ∨ (ir_I M 121 0 = 1 ∧ c_ob M (M.1 413))
def c_I (M : ir_M) : Prop := c_I1 M ∧ c_I2 M ∧ c_I3 M
def q_Iv (L : Nat) (xs : Nat → Int32) (j : Nat) (M : ir_M) : Prop := q_PI M ∧ q_X L xs M ∧ ir_nc M ≤ 500 + j ∧ ir_ns M ≤ 100000 + 6 * j ∧ c_I M
theorem c_ap_fr {M M' : ir_M} {t : Nat} {K : Nat → Int32} (hf : M'.1 (t + 2) = M.1 (t + 2)) (h : c_ap M t K) : c_ap M' t K := fun p hp => by
  obtain ⟨x, h1, h2, h3⟩ := h p hp
  exact ⟨x, h1, (congrFun hf p).trans h2, h3⟩
theorem c_sc_fr {M M' : ir_M} {a : Nat} {K : Nat → Int32} (hf : ∀ j, j < 88 → j ≠ 6 → M'.1 (a + j) = M.1 (a + j)) (h : c_sc M a K) : c_sc M' a K := by
  obtain ⟨h1, h2, h3, h4, e, he, h5, h6, h7⟩ := h
  refine ⟨c_tdT_fr (fun j hj _ h5 => ?_) h1, c_ap_fr ?_ h2, c_st_fr (fun j hj => ?_) h3, ?_, e, he, ?_, fun i hi => c_st_fr (fun j hj => ?_) (h6 i hi), fun x hx => ?_⟩
  · rw [show a + 1 + j = a + (1 + j) by omega]
    exact hf _ (by omega) (by omega)
  · rw [show a + 1 + 2 = a + 3 by omega]
    exact hf _ (by omega) (by omega)
  · rw [show a + 9 + j = a + (9 + j) by omega]
    exact hf _ (by omega) (by omega)
  · exact (congrFun (hf 0 (by omega) (by omega)) 2).trans h4
  · exact (congrFun (hf 0 (by omega) (by omega)) 3).trans h5
  · have := Nat.mod_lt (e + i) (show 0 < 12 by decide)
    rw [show a + 16 + 6 * ((e + i) % 12) + j = a + (16 + 6 * ((e + i) % 12) + j) by omega]
    exact hf _ (by omega) (by omega)
  · have z := h7 x hx
    rw [show a + 16 + 6 * x = a + (16 + 6 * x) by omega] at z ⊢
    rw [show ir_I M' (a + (16 + 6 * x)) 2 = ir_I M (a + (16 + 6 * x)) 2 from congrFun (hf _ (by omega) (by omega)) 2]
    exact z
theorem q_l1_of {a : Nat} (h : (3 ≤ a ∧ a ≤ 90 ∧ a ≠ 9) ∨ a = 413) : q_l1 a = true := by
  unfold q_l1
  rcases h with ⟨h1, h2, h3⟩ | rfl
  · have e3 : Nat.beq a 9 = false := by
      cases e : Nat.beq a 9
      · rfl
      · exact absurd (Nat.eq_of_beq_eq_true e) h3
    rw [Nat.ble_eq_true_of_le h1, Nat.ble_eq_true_of_le h2, e3]
    rfl
  · rfl
theorem c_I1_fr {M M' : ir_M} (hv : q_v1 M M') (h : c_I1 M) : c_I1 M' := by
  unfold c_I1
  rw [hv 413 rfl]
  exact ⟨h.1, c_sc_fr (fun j hj h6 => hv _ (q_l1_of (by omega))) h.2⟩
theorem q_l2_of {a k : Nat} (h : 140 ≤ a ∧ a ≤ 411 ∧ a ≠ 146 ∧ a ≠ 234 ∧ a ≠ 322) : q_l2 a k = true := by
  unfold q_l2
  have g : ∀ x, a ≠ x → Nat.beq a x = false := fun x hx => by
    cases e : Nat.beq a x
    · rfl
    · exact absurd (Nat.eq_of_beq_eq_true e) hx
  rw [Nat.ble_eq_true_of_le h.1, Nat.ble_eq_true_of_le h.2.1, g _ h.2.2.1, g _ h.2.2.2.1, g _ h.2.2.2.2]
  simp
theorem c_ty_fr {M M' : ir_M} {i : Nat} (hi : i < 4) (hv : q_v2 M M') (h : c_ty M i) : c_ty M' i := by
  have f : ∀ k, ir_I M' (404 + 2 * i) k = ir_I M (404 + 2 * i) k := fun k => hv.1 _ k (q_l2_of (by omega))
  have f3 : ∀ k, ir_I M' 433 k = ir_I M 433 k := fun k => hv.1 _ k rfl
  have f4 : ∀ k, ir_I M' 434 k = ir_I M 434 k := fun k => hv.1 _ k rfl
  have f5 : ∀ k, ir_J M' (405 + 2 * i) k = ir_J M (405 + 2 * i) k := fun k => congrFun (hv.2 _ (by
    have : i = 0 ∨ i = 1 ∨ i = 2 ∨ i = 3 := by omega
    rcases this with rfl | rfl | rfl | rfl <;> rfl)) k
  have f6 : ∀ k, ir_J M' 435 k = ir_J M 435 k := fun k => congrFun (hv.2 435 rfl) k
  unfold c_ty at h ⊢
  simp only [f, f3, f4, f5, f6]
  exact h
theorem c_I2_fr {M M' : ir_M} (hv : q_v2 M M') (h : c_I2 M) : c_I2 M' := by
  obtain ⟨h1, h2, ⟨tp, t1, t2, t3, t4⟩, h4, h5⟩ := h
  have f : ∀ a k, q_l2 a k = true → ir_I M' a k = ir_I M a k := fun a k h => hv.1 a k h
  refine ⟨fun i hi => ?_, fun i hi => c_ty_fr hi hv (h2 i hi), ⟨tp, t1, (f 1 1 rfl).trans t2, (f 412 6 rfl).trans t3, fun k hk => ?_⟩, ?_, ?_⟩
  · have e : k_im M' i = k_im M i := funext fun k => by unfold k_im; rw [hv.1 415 (1640 * i + k) rfl]
    rw [e, f 98 i rfl, f 416 i rfl]
    rcases h1 i hi with q | ⟨q1, q2, q3, q4⟩
    · exact Or.inl q
    · refine Or.inr ⟨q1, q2, q3, c_sc_fr (fun j hj h6 => funext fun k => hv.1 _ k (q_l2_of (by omega))) q4⟩
  · rw [f 417 k rfl, f 2 k rfl]
    exact t4 k hk
  · rw [f 1 2 rfl, f 412 14 rfl]
    exact h4
  · refine ⟨?_, fun k hk => (f 115 k rfl).trans (h5.2 k hk)⟩
    rw [f 1 3 rfl, f 412 15 rfl]
    exact h5.1
theorem c_I3_fr {M M' : ir_M} (hv : q_v3 M M') (hk : M'.1 413 = M.1 413) (h : c_I3 M) : c_I3 M' := by
  have f : ∀ a k, q_l3 a k = true → ir_I M' a k = ir_I M a k := fun a k h => hv a k h
  unfold c_I3 c_ob at h ⊢
  rw [hk, f 121 0 rfl, f 121 1 rfl, f 121 2 rfl]
  simp only [f 122 _ rfl]
  exact h
theorem q_go.tr {k l : Nat} {A B C : ir_M} (h : q_go k A B) (g : q_go l B C) : q_go (k + l) A C := ⟨g.1, fun a ha => ⟨(g.2.1 a ha).1.trans (h.2.1 a ha).1, (g.2.1 a ha).2.1.trans (h.2.1 a ha).2.1, (g.2.1 a ha).2.2.trans (h.2.1 a ha).2.2⟩, by have := h.2.2.1; have := g.2.2.1; omega, by have := h.2.2.2; have := g.2.2.2; omega⟩
theorem q_st.tr {k l : Nat} {A B C : ir_M} (h : q_st k A B) (g : q_st l B C) : q_st (k + l) A C := ⟨h.1.tr g.1, fun a ha => (g.2.1 a ha).trans (h.2.1 a ha), ⟨fun a k ha => (g.2.2.1.1 a k ha).trans (h.2.2.1.1 a k ha), fun a ha => (g.2.2.1.2 a ha).trans (h.2.2.1.2 a ha)⟩, fun a k ha => (g.2.2.2 a k ha).trans (h.2.2.2 a k ha)⟩
theorem q_st.rf {M : ir_M} (h : q_PI M) : q_st 0 M M := ⟨⟨h, fun _ _ => ⟨rfl, rfl, rfl⟩, Nat.le_refl _, Nat.le_refl _⟩, fun _ _ => rfl, ⟨fun _ _ _ => rfl, fun _ _ => rfl⟩, fun _ _ _ => rfl⟩
theorem q_Iv_st {L : Nat} {xs : Nat → Int32} {j k : Nat} {M M' : ir_M} (h : q_Iv L xs j M) (s : q_st k M M') (hk : k ≤ 1) : q_Iv L xs (j + 1) M' := by
  obtain ⟨h1, h2, h3, h4, h5, h6, h7⟩ := h
  obtain ⟨⟨g1, g2, g3, g4⟩, v1, v2, v3⟩ := s
  refine ⟨g1, fun a ha => ?_, by omega, by omega, c_I1_fr v1 h5, c_I2_fr v2 h6, c_I3_fr v3 (v1 413 rfl) h7⟩
  rw [(g2 a ha).1, (g2 a ha).2.1, (g2 a ha).2.2]
  exact h2 a ha
theorem q_Iv_X {L : Nat} {xs : Nat → Int32} {j k : Nat} {M M' : ir_M} (h : q_Iv L xs j M) (g : q_go k M M') : q_PI M' ∧ q_X L xs M' := by
  refine ⟨g.1, fun a ha => ?_⟩
  rw [(g.2.1 a ha).1, (g.2.1 a ha).2.1, (g.2.1 a ha).2.2]
  exact h.2.1 a ha
/-- cells that live only within a call -/
def q_tmp (a : Nat) : Bool := Nat.beq a 9 || (Nat.ble 91 a && Nat.ble a 96) || (Nat.ble 100 a && Nat.ble a 114) || (Nat.ble 116 a && Nat.ble a 120) || (Nat.ble 123 a && Nat.ble a 139) || Nat.beq a 414 || (Nat.ble 418 a && Nat.ble a 432) || Nat.beq a 436
theorem q_tmp_1 : ∀ a, a < 437 → q_tmp a = true → q_l1 a = false := by decide +kernel
theorem q_tmp_r {a : Nat} (h : q_tmp a = true) : a < 437 := by
  unfold q_tmp at h
  simp only [Bool.or_eq_true, Bool.and_eq_true, Nat.beq_eq, Nat.ble_eq] at h
  omega
theorem q_tmp_2 : ∀ a, a < 437 → q_tmp a = true → Nat.beq a 1 = false ∧ Nat.beq a 412 = false ∧ Nat.beq a 121 = false ∧ Nat.beq a 122 = false ∧ q_l2 a 0 = false := by decide +kernel
theorem q_tmp_no {a : Nat} (h : q_tmp a = true) : q_l1 a = false ∧ (∀ k, q_l2 a k = false) ∧ ∀ k, q_l3 a k = false := by
  have hr := q_tmp_r h
  obtain ⟨h1, h2, h3, h4, h5⟩ := q_tmp_2 a hr h
  refine ⟨q_tmp_1 a hr h, fun k => ?_, fun k => ?_⟩
  · unfold q_l2 at h5 ⊢
    rw [h1, h2] at h5 ⊢
    exact h5
  · unfold q_l3
    rw [h3, h4]
    rfl
theorem q_st_eq {S : List Nat} {M M' : ir_M} (hp : q_PI M) (he : q_eq S M M') (hS : ∀ a ∈ S, q_tmp a = true) : q_st 0 M M' := by
  have ne : ∀ a, a ∈ S → ¬ 1000000 ≤ a := fun a ha q => by have := q_tmp_r (hS a ha); omega
  have m2 := he.2
  refine ⟨⟨q_PI_eq he hp, fun a ha => ⟨he.1 a (fun q => ne a q ha), by rw [m2], by rw [m2]⟩, ?_, ?_⟩, fun a ha => he.1 a (fun q => ?_), ⟨fun a k ha => congrFun (he.1 a (fun q => ?_)) k, fun a _ => by rw [m2]⟩, fun a k ha => congrFun (he.1 a (fun q => ?_)) k⟩
  · show M'.2.2.2.2.1 ≤ M.2.2.2.2.1 + 0
    rw [m2]
    exact Nat.le_refl _
  · show M'.2.2.2.2.2.1 ≤ M.2.2.2.2.2.1 + 6 * 0
    rw [m2]
    exact Nat.le_refl _
  · rw [(q_tmp_no (hS a q)).1] at ha; exact nomatch ha
  · rw [(q_tmp_no (hS a q)).2.1 k] at ha; exact nomatch ha
  · rw [(q_tmp_no (hS a q)).2.2 k] at ha; exact nomatch ha
theorem q_st_th {M : ir_M} (hp : q_PI M) : q_st 1 M (ir_th M) := ⟨⟨hp, fun _ _ => ⟨rfl, rfl, rfl⟩, Nat.le_refl _, Nat.le_refl _⟩, fun _ _ => rfl, ⟨fun _ _ _ => rfl, fun _ _ => rfl⟩, fun _ _ _ => rfl⟩
theorem q_st_J {M : ir_M} (hp : q_PI M) {k : Nat} {v : Int64} : q_st 0 M (ir_sJ M 436 k v) := ⟨⟨hp, fun a ha => ⟨rfl, if_neg (show ¬ a = 436 by omega), rfl⟩, Nat.le_refl _, Nat.le_refl _⟩, fun _ _ => rfl, ⟨fun _ _ _ => rfl, fun a ha => if_neg (fun q : a = 436 => by rw [q] at ha; exact nomatch ha)⟩, fun _ _ _ => rfl⟩
/-- a field of the reference that isn't kept between calls -/
theorem q_st_4 {M : ir_M} (hp : q_PI M) {k : Nat} {v : Int32} (hk : q_l2 412 k = false) : q_st 0 M (ir_sI M 412 k v) := by
  have ne : ∀ a, a ≠ 412 → (ir_sI M 412 k v).1 a = M.1 a := fun a ha => if_neg ha
  refine ⟨⟨hp, fun a ha => ⟨ne a (by omega), rfl, rfl⟩, Nat.le_refl _, Nat.le_refl _⟩, fun a ha => ne a (fun q => by rw [q] at ha; exact nomatch ha), ⟨fun a j ha => ?_, fun _ _ => rfl⟩, fun a j ha => congrFun (ne a (fun q => by rw [q] at ha; exact nomatch ha)) j⟩
  by_cases q : a = 412
  · subst q
    by_cases q2 : j = k
    · rw [q2, hk] at ha; exact nomatch ha
    · exact q_I_k (M := M) (a := 412) q2
  · exact congrFun (ne a q) j
/-- a field of the class's own object -/
theorem q_st_1 {M : ir_M} (hp : q_PI M) {k : Nat} {v : Int32} (hk : 4 ≤ k) : q_st 0 M (ir_sI M 1 k v) := by
  have ne : ∀ a, a ≠ 1 → (ir_sI M 1 k v).1 a = M.1 a := fun a ha => if_neg ha
  refine ⟨⟨hp, fun a ha => ⟨ne a (by omega), rfl, rfl⟩, Nat.le_refl _, Nat.le_refl _⟩, fun a ha => ne a (fun q => by rw [q] at ha; exact nomatch ha), ⟨fun a j ha => ?_, fun _ _ => rfl⟩, fun a j ha => congrFun (ne a (fun q => by rw [q] at ha; exact nomatch ha)) j⟩
  by_cases q : a = 1
  · subst q
    by_cases q2 : j = k
    · rw [q2] at ha
      have e : q_l2 1 k = (Nat.ble 1 k && Nat.ble k 3) := by
        show ((Nat.ble 1 k && Nat.ble k 3) || false) = _
        exact Bool.or_false _
      rw [e] at ha
      simp only [Bool.and_eq_true, Nat.ble_eq] at ha
      omega
    · exact q_I_k (M := M) (a := 1) q2
  · exact congrFun (ne a q) j
/-- both relations at a place between calls -/
theorem c_I_c {M : ir_M} (hp : q_PI M) (h : c_I1 M) : c_rl M 12 (M.1 413) := ⟨hp, by decide, h.1.1, h.2.1, h.2.2.2.1⟩
theorem c_I_r {M : ir_M} (hp : q_PI M) (h : c_I1 M) : r_rl M (M.1 413) := ⟨hp, h.1.1, fun _ => rfl⟩
theorem q_st_c {k : Nat} {M M' : ir_M} {K : Nat → Int32} (s : q_st k M M') (h : c_rl M 12 K) : c_rl M' 12 K :=
  ⟨s.1.1, h.2.1, h.2.2.1, c_tdT_fr (t := 4) (fun j hj _ h5 => s.2.1 _ (q_l1_of (by omega))) h.2.2.2.1, c_st_fr (fun j hj => s.2.1 _ (q_l1_of (by omega))) h.2.2.2.2⟩
theorem q_st_r {k : Nat} {M M' : ir_M} {K : Nat → Int32} (s : q_st k M M') (h : r_rl M K) : r_rl M' K := ⟨s.1.1, h.2.1, fun i => (congrFun (s.2.1 413 rfl) i).trans (h.2.2 i)⟩
