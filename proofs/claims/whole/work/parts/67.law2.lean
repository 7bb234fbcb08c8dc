/-! the reference's isAllowed -/
theorem q_gaI {M : ir_M} {a c n k : Nat} (e : ∀ i, ir_ga M a c i = ir_inb i n) (hk : k < n) (hn : n < 2 ^ 31) : ir_ga M a c (nI k) = true := by rw [e, q_inb hk hn]
theorem q_gwI {M : ir_M} {a c n k : Nat} (e : ∀ i, ir_gw M a c i = ir_inb i n) (hk : k < n) (hn : n < 2 ^ 31) : ir_gw M a c (nI k) = true := by rw [e, q_inb hk hn]
theorem q_PI_eq {S : List Nat} {M M' : ir_M} (h : q_eq S M M') (hp : q_PI M) : q_PI M' := by
  obtain ⟨-, h2⟩ := h
  refine ⟨?_, ?_, ?_⟩
  · show M'.2.2.2.1 = 437
    rw [h2]
    exact hp.1
  · intro l hl e he
    rw [show M'.2.2.1 = M.2.2.1 by rw [h2]]
    exact hp.2.1 l hl e he
  · rw [show M'.2.2.1 = M.2.2.1 by rw [h2]]
    exact hp.2.2
theorem q_X_eq {S : List Nat} {L : Nat} {xs : Nat → Int32} {M M' : ir_M} (h : q_eq S M M') (hS : ∀ a ∈ S, a < 1000000) (hx : q_X L xs M) : q_X L xs M' := by
  intro a ha
  rw [h.1 a (fun q => by have := hS a q; omega), h.2]
  exact hx a ha
section QR
variable {M : ir_M} {K : Nat → Int32}
/-- known -/
def k_at (M : ir_M) (K : Nat → Int32) : Prop := ∀ k, k < 1640 → M.1 413 k = K k
theorem k_at.get (h : k_at M K) {k : Nat} (hk : k < 1640) : ir_I M 413 k = K k := h k hk
theorem k_at_eq {S : List Nat} {M' : ir_M} (h : q_eq S M M') (hS : 413 ∉ S) (hk : k_at M K) : k_at M' K := fun k hk' => by rw [h.1 413 hS]; exact hk k hk'
theorem k_g413 (h : q_PI M) {k : Nat} (hk : k < 1640) : ir_ga M 413 100 (nI k) = true := q_gaI (q_a413 h) hk (by decide)
theorem r_queued {d : Nat} (h : q_PI M) (hK : k_at M K) : m_X12_queued (d + 1) 412 M = ir_oI (K 9) M := by
  rw [e_X12_queued, q_ck (q_g412_0 h), q_p412_0 h, q_ck (show ir_ga M 413 100 (9 : Int32) = true from k_g413 h (k := 9) (by decide)), show (9 : Int32).toNatClampNeg = 9 by decide +kernel, hK.get (by decide)]
theorem r_who {d i : Nat} (h : q_PI M) (hK : k_at M K) (hi : i < 8) : m_X12_who (d + 1) 412 (nI i) M = ir_oI (K (10 + i)) M := by
  rw [e_X12_who, q_ck (q_g412_0 h), q_p412_0 h, show (10 : Int32) + nI i = nI (10 + i) from nI_add 10 i, q_ck (k_g413 h (by omega)), nI_clamp (by omega), hK.get (by omega)]
theorem r_worthTo {d p : Nat} {g : Int32} (h : q_PI M) (hK : k_at M K) (hp : p < 8) (hg : g = -1 ∨ ∃ j : Nat, j < 6 ∧ g = nI j) : m_X12_worthTo (d + 1) 412 (nI p) g M = ir_oI (k_wt K p g) M := by
  rw [e_X12_worthTo]
  unfold k_wt
  by_cases h1 : g = -1
  · rw [if_pos h1, if_pos h1]
  · rw [if_neg h1, if_neg h1]
    rcases hg with hg | ⟨j, hj, rfl⟩
    · exact absurd hg h1
    · rw [q_ck (q_g412_0 h), q_p412_0 h, show ((61 : Int32) + ((6 : Int32) * nI p)) + nI j = nI (61 + 6 * p + j) by rw [show (6 : Int32) * nI p = nI (6 * p) from pk_mul 6 p, show (61 : Int32) + nI (6 * p) = nI (61 + 6 * p) from nI_add 61 (6 * p), nI_add], q_ck (k_g413 h (by omega)), nI_clamp (by omega), nI_clamp (by omega), hK.get (by omega)]
theorem r_wordOf {d p w : Nat} {g pl : Int32} (h : q_PI M) (hK : k_at M K) (hp : p < 8) (hg : g = -1 ∨ ∃ j : Nat, j < 6 ∧ g = nI j) (hw : w < 8) : m_X12_wordOf (d + 2) 412 (nI w) (nI p) g pl M = ir_oI (k_wd K p g pl w) M := by
  rw [e_X12_wordOf]
  have hw8 : w = 0 ∨ w = 1 ∨ w = 2 ∨ w = 3 ∨ w = 4 ∨ w = 5 ∨ w = 6 ∨ w = 7 := by omega
  have e53 : (53 : Int32) + nI p = nI (53 + p) := nI_add 53 p
  have e26 : (26 : Int32) + nI p = nI (26 + p) := nI_add 26 p
  have e34 : (34 : Int32) + nI p = nI (34 + p) := nI_add 34 p
  rcases hw8 with rfl | rfl | rfl | rfl | rfl | rfl | rfl | rfl
  · rw [if_pos (by decide +kernel)]
    rfl
  · rw [if_neg (by decide +kernel), if_pos (by decide +kernel), q_ck (q_k412 h), r_worthTo h hK hp hg, q_cI]
    rfl
  · rw [if_neg (by decide +kernel), if_neg (by decide +kernel), if_pos (by decide +kernel), q_ck (q_g412_0 h), q_p412_0 h, e53, q_ck (k_g413 h (by omega)), nI_clamp (by omega), hK.get (by omega)]
    rfl
  · rw [if_neg (by decide +kernel), if_neg (by decide +kernel), if_neg (by decide +kernel), if_pos (by decide +kernel), q_ck (q_g412_0 h), q_p412_0 h, e26, q_ck (k_g413 h (by omega)), nI_clamp (by omega), hK.get (by omega)]
    rfl
  · rw [if_neg (by decide +kernel), if_neg (by decide +kernel), if_neg (by decide +kernel), if_neg (by decide +kernel), if_pos (by decide +kernel)]
    rfl
  · rw [if_neg (by decide +kernel), if_neg (by decide +kernel), if_neg (by decide +kernel), if_neg (by decide +kernel), if_neg (by decide +kernel), if_pos (by decide +kernel), q_ck (q_k412 h), r_queued h hK, q_cI]
    rfl
  · rw [if_neg (by decide +kernel), if_neg (by decide +kernel), if_neg (by decide +kernel), if_neg (by decide +kernel), if_neg (by decide +kernel), if_neg (by decide +kernel), if_pos (by decide +kernel), q_ck (q_g412_0 h), q_p412_0 h, e34, q_ck (k_g413 h (by omega)), nI_clamp (by omega), hK.get (by omega)]
    rfl
  · rw [if_neg (by decide +kernel), if_neg (by decide +kernel), if_neg (by decide +kernel), if_neg (by decide +kernel), if_neg (by decide +kernel), if_neg (by decide +kernel), if_neg (by decide +kernel), q_ck (q_g412_0 h), q_p412_0 h, q_ck (show ir_ga M 413 100 (42 : Int32) = true from k_g413 h (k := 42) (by decide)), show (42 : Int32).toNatClampNeg = 42 by decide +kernel, hK.get (by decide)]
    rfl
theorem r_done {d s : Nat} {a b : Int32} (hs : 10 ≤ s) (hs2 : s ≤ 17) : m_X12_done (d + 2) (nI s) a.toInt64 b.toInt64 M = ir_oI (k_dn s a b) M := by
  have hw8 : s = 10 ∨ s = 11 ∨ s = 12 ∨ s = 13 ∨ s = 14 ∨ s = 15 ∨ s = 16 ∨ s = 17 := by omega
  have hb : ∀ v, m_X12_bound (d + 1) v M = ir_oI (k_bd v) M := fun v => by rw [e_X12_bound]; rfl
  have c0 : ∀ x y : Int64, lg_cmp x y = 0 ↔ x = y := fun x y => by
    unfold lg_cmp
    simp only [gt_iff_lt, Int64.lt_iff_toInt_lt, ← Int64.toInt_inj]
    split
    · exact ⟨fun q => absurd q (by decide), fun q => by omega⟩
    · split
      · exact ⟨fun _ => by assumption, fun _ => rfl⟩
      · exact ⟨fun q => absurd q (by decide), fun q => by omega⟩
  have c1 : ∀ x y : Int64, lg_cmp x y < 0 ↔ x < y := fun x y => by
    unfold lg_cmp
    simp only [gt_iff_lt, Int64.lt_iff_toInt_lt, ← Int64.toInt_inj]
    split
    · exact ⟨fun q => absurd q (by decide), fun q => by omega⟩
    · split
      · exact ⟨fun q => absurd q (by decide), fun q => by omega⟩
      · exact ⟨fun _ => by omega, fun _ => by decide⟩
  have c2 : ∀ x y : Int64, 0 < lg_cmp x y ↔ y < x := fun x y => by
    unfold lg_cmp
    simp only [gt_iff_lt, Int64.lt_iff_toInt_lt, ← Int64.toInt_inj]
    split
    · exact ⟨fun _ => by assumption, fun _ => by decide⟩
    · split
      · exact ⟨fun q => absurd q (by decide), fun q => by omega⟩
      · exact ⟨fun q => absurd q (by decide), fun q => by omega⟩
  have w1 : a.toInt64 = b.toInt64 ↔ a = b := by rw [← Int64.toInt_inj, ← Int32.toInt_inj, Int32.toInt_toInt64, Int32.toInt_toInt64]
  have w2 : ∀ x y : Int32, x.toInt64 < y.toInt64 ↔ x < y := fun x y => by rw [Int64.lt_iff_toInt_lt, Int32.lt_iff_toInt_lt, Int32.toInt_toInt64, Int32.toInt_toInt64]
  rw [e_X12_done]
  rcases hw8 with rfl | rfl | rfl | rfl | rfl | rfl | rfl | rfl
  · rw [if_pos (by decide +kernel), hb, q_cI]
    rfl
  · rw [if_neg (by decide +kernel), if_pos (by decide +kernel), hb, q_cI]
    rfl
  · rw [if_neg (by decide +kernel), if_neg (by decide +kernel), if_pos (by decide +kernel), hb, q_cI]
    rfl
  · rw [if_neg (by decide +kernel), if_neg (by decide +kernel), if_neg (by decide +kernel), if_pos (by decide +kernel)]
    show _ = ir_oI (if a = b then 1 else 0) M
    by_cases q : a = b
    · rw [if_pos ((c0 _ _).mpr (w1.mpr q)), if_pos q]
    · rw [if_neg (fun z => q (w1.mp ((c0 _ _).mp z))), if_neg q]
  · rw [if_neg (by decide +kernel), if_neg (by decide +kernel), if_neg (by decide +kernel), if_neg (by decide +kernel), if_pos (by decide +kernel)]
    show _ = ir_oI (if a < b then 1 else 0) M
    by_cases q : a < b
    · rw [if_pos ((c1 _ _).mpr ((w2 _ _).mpr q)), if_pos q]
    · rw [if_neg (fun z => q ((w2 _ _).mp ((c1 _ _).mp z))), if_neg q]
  · rw [if_neg (by decide +kernel), if_neg (by decide +kernel), if_neg (by decide +kernel), if_neg (by decide +kernel), if_neg (by decide +kernel), if_pos (by decide +kernel)]
    show _ = ir_oI (if b < a then 1 else 0) M
    by_cases q : b < a
    · rw [if_pos ((c2 _ _).mpr ((w2 _ _).mpr q)), if_pos q]
    · rw [if_neg (fun z => q ((w2 _ _).mp ((c2 _ _).mp z))), if_neg q]
  · rw [if_neg (by decide +kernel), if_neg (by decide +kernel), if_neg (by decide +kernel), if_neg (by decide +kernel), if_neg (by decide +kernel), if_neg (by decide +kernel), if_pos (by decide +kernel)]
    show _ = ir_oI (if 0 < lg_cmp (a.toInt64 + b.toInt64) 1 then 1 else 0) M
    by_cases q : 0 < lg_cmp (a.toInt64 + b.toInt64) 1
    · rw [if_pos q, if_pos q]
    · rw [if_neg q, if_neg q]
  · rw [if_neg (by decide +kernel), if_neg (by decide +kernel), if_neg (by decide +kernel), if_neg (by decide +kernel), if_neg (by decide +kernel), if_neg (by decide +kernel), if_neg (by decide +kernel)]
    show _ = ir_oI (if 0 < lg_cmp (a.toInt64 + b.toInt64) 0 then 1 else 0) M
    by_cases q : 0 < lg_cmp (a.toInt64 + b.toInt64) 0
    · rw [if_pos q, if_pos q]
    · rw [if_neg q, if_neg q]
end QR
