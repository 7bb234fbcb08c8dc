theorem q_sI_at {M : ir_M} {a k : Nat} {v : Int32} : (ir_sI M a k v).1 a = upd (M.1 a) k v := if_pos rfl
theorem k_fit1 {l : List Int32} {x : Bool} {r : List Bool} (h : k_fit l (x :: r)) : ∃ a l', l = a :: l' ∧ (x = true → a = 0 ∨ a = 1) ∧ l'.length = r.length := by
  cases l with
  | nil => exact h.elim
  | cons a l' => exact ⟨a, l', rfl, h.1, k_fit_len h.2⟩
theorem k_fit2 {l : List Int32} {x y : Bool} {r : List Bool} (h : k_fit l (x :: y :: r)) : ∃ b a l', l = b :: a :: l' ∧ (x = true → b = 0 ∨ b = 1) ∧ (y = true → a = 0 ∨ a = 1) ∧ l'.length = r.length := by
  cases l with
  | nil => exact h.elim
  | cons b l' =>
    obtain ⟨a, l'', rfl, h2, h3⟩ := k_fit1 h.2
    exact ⟨b, a, l'', rfl, h.1, h2, h3⟩
theorem k_tys_s {K : Nat → Int32} {i : Nat} {t t' : List Bool} (h : k_tys K i = some t) (h' : k_tys K (i + 1) = some t') : k_ty (k_sp K i) t = some t' := by
  have h9 : (match k_tys K i with | some l => k_ty (k_sp K i) l | none => none) = some t' := h'
  rw [h] at h9
  exact h9
/-- a step that joins two -/
theorem k_stp2 {wd : Nat → Int32} {s : Nat} {a b : Int32} {l : List Int32} (h1 : s < 100) (h2 : s ≠ 18) : k_stp wd s (b :: a :: l) = k_dn s a b :: l := by
  unfold k_stp
  rw [if_neg (by omega), if_neg (by omega), if_neg h2]
theorem k_tyb {s : Nat} {l t : List Bool} (h : k_ty s l = some t) (h1 : s < 100) (h2 : s ≠ 18) : 10 ≤ s ∧ s ≤ 17 ∧ ∃ x y r z, l = x :: y :: r ∧ t = z :: r := by
  rcases k_ty_inv h with ⟨q, -⟩ | ⟨q, -⟩ | ⟨q, r, rfl, rfl⟩ | ⟨q, r, rfl, rfl⟩ | ⟨q, r, rfl, rfl⟩
  · omega
  · omega
  · exact ⟨by omega, by omega, _, _, _, _, rfl, rfl⟩
  · exact ⟨by omega, by omega, _, _, _, _, rfl, rfl⟩
  · exact ⟨by omega, by omega, _, _, _, _, rfl, rfl⟩
theorem r_allowed {M : ir_M} {K : Nat → Int32} {d p : Nat} {g pl : Int32} (h : q_PI M) (hK : k_at M K) (hw : k_wfL K) (hp : p < 8) (hg : g = -1 ∨ ∃ j : Nat, j < 6 ∧ g = nI j) :
    ∃ M', m_X12_isAllowed (d + 4) 412 (nI p) g pl M = ir_oI (if k_al K p g pl then 1 else 0) M' ∧ q_eq [418] M M' := by
  obtain ⟨n, hn, h7, hs, ht, hend⟩ := hw
  rw [e_X12_isAllowed]
  refine q_lp (σ := Nat × ir_M) (V := fun i t => v_X12_isAllowed_6 (d + 3) 412 (nI p) g pl (nI t.1) (nI i) t.2) (N := n)
    (I := fun i t => t.1 = (k_ev K (k_wd K p g pl) i).length ∧ q_eq [418] M t.2 ∧ k_stk (t.2.1 418) (k_ev K (k_wd K p g pl) i))
    (R := fun r => ∃ M', r = ir_oI (if k_al K p g pl then 1 else 0) M' ∧ q_eq [418] M M') ?_ ?_ n 0 (0, M) (by omega) ⟨rfl, q_eq.rf _ _, trivial⟩
  · rintro i ⟨m, M1⟩ hi ⟨hl, he, hst⟩
    dsimp only at hl he hst ⊢
    refine Or.inr ?_
    have h1 := q_PI_eq he h
    have hK1 := k_at_eq he (by decide) hK
    obtain ⟨t, ht1, ht2⟩ := ht i (by omega)
    obtain ⟨t', ht3, ht4⟩ := ht (i + 1) (by omega)
    have hty := k_tys_s ht1 ht3
    have hf := k_fit_ev (wd := k_wd K p g pl) i ht1
    have hlen := k_fit_len hf
    have hs1 := hs i hi
    have e7 : (717 : Int32) + nI i = nI (717 + i) := nI_add 717 i
    rw [l_X12_isAllowed_6, q_ck (q_g412_0 h1), q_p412_0 h1, q_ck (show ir_ga M1 413 100 (7 : Int32) = true from k_g413 h1 (k := 7) (by decide)), show (7 : Int32).toNatClampNeg = 7 by decide +kernel, hK1.get (by decide), h7, if_pos (nI_lt hi (by omega)), q_ck (q_g412_0 h1), e7, q_ck (k_g413 h1 (by omega)), nI_clamp (show 717 + i < 2 ^ 31 by omega), hK1.get (show 717 + i < 1640 by omega), hs1]
    rw [show k_ev K (k_wd K p g pl) (i + 1) = k_stp (k_wd K p g pl) (k_sp K i) (k_ev K (k_wd K p g pl) i) from rfl]
    generalize k_ev K (k_wd K p g pl) i = l at hl hst hf hlen ⊢
    generalize k_sp K i = s at hty ⊢
    -- a value comes on top
    have push : ∀ v : Int32, m ≤ 60 → ∃ t'' : Nat × ir_M, (t''.1 = (v :: l).length ∧ q_eq [418] M t''.2 ∧ k_stk (t''.2.1 418) (v :: l)) ∧ v_X12_isAllowed_6 (d + 3) 412 (nI p) g pl (nI m + 1) (nI i + 1) (ir_sI M1 418 m v) = v_X12_isAllowed_6 (d + 3) 412 (nI p) g pl (nI t''.1) (nI (i + 1)) t''.2 := by
      intro v _
      refine ⟨(m + 1, ir_sI M1 418 m v), ⟨by rw [hl]; rfl, he.tr (q_eq.sI (by decide)), ?_⟩, by rw [nI_1, nI_1]⟩
      dsimp only
      rw [q_sI_at, hl]
      exact k_stk_push hst
    by_cases q1 : s < 100
    · rw [if_pos (show nI s < 100 from nI_lt (b := 100) q1 (by decide))]
      by_cases q2 : s = 18
      · subst q2
        rw [if_pos (by decide +kernel)]
        rcases k_ty_inv hty with ⟨q, -⟩ | ⟨-, r, rfl, rfl⟩ | ⟨q, -⟩ | ⟨q, -⟩ | ⟨q, -⟩
        · omega
        · obtain ⟨a, l', rfl, h01, hl'⟩ := k_fit1 hf
          simp only [List.length_cons] at hl ht2
          have e1 : nI m - (1 : Int32) = nI l'.length := by rw [hl]; exact nI_pred _
          rw [q_ck (q_g412_17 h1), q_ck (q_g412_17 h1), q_p412_17 h1, e1, q_ck (q_gaI (q_a418 h1) (show l'.length < 64 by omega) (by decide)), q_ck (q_gwI (q_w418 h1) (show l'.length < 64 by omega) (by decide)), q_lt, nI_clamp (show l'.length < 2 ^ 31 by omega), show ir_I M1 418 l'.length = a from hst.1]
          refine ⟨(m, ir_sI M1 418 l'.length (1 - a)), ⟨?_, he.tr (q_eq.sI (by decide)), ?_⟩, by rw [nI_1]⟩
          · rw [hl]
            rfl
          · dsimp only
            rw [q_sI_at]
            exact k_stk_push hst.2
        · omega
        · omega
        · omega
      · rw [if_neg (show ¬ nI s = 18 from fun q => q2 ((nI_eq (a := s) (b := 18) (by omega) (by decide)).mp q))]
        obtain ⟨b10, b17, x, y, r, z, rfl, rfl⟩ := k_tyb hty q1 q2
        obtain ⟨b, a, l', rfl, -, -, hl'⟩ := k_fit2 hf
        simp only [List.length_cons] at hl ht2
        have e1 : nI m + (-1 : Int32) = nI (l'.length + 1) := by rw [hl]; exact pk_m1 _
        have e2 : nI (l'.length + 1) - (1 : Int32) = nI l'.length := nI_pred _
        rw [q_ck (q_g412_17 h1), q_ck (q_g412_17 h1), q_p412_17 h1, e1, e2, q_ck (q_gaI (q_a418 h1) (show l'.length < 64 by omega) (by decide)), q_ck (q_g412_17 h1), q_ck (q_gaI (q_a418 h1) (show l'.length + 1 < 64 by omega) (by decide)), nI_clamp (show l'.length < 2 ^ 31 by omega), nI_clamp (show l'.length + 1 < 2 ^ 31 by omega), show ir_I M1 418 l'.length = a from hst.2.1, show ir_I M1 418 (l'.length + 1) = b from hst.1, r_done b10 b17, q_cI, q_ck (q_gwI (q_w418 h1) (show l'.length < 64 by omega) (by decide)), q_lt, k_stp2 q1 q2]
        refine ⟨(l'.length + 1, ir_sI M1 418 l'.length (k_dn s a b)), ⟨rfl, he.tr (q_eq.sI (by decide)), ?_⟩, by rw [nI_1]⟩
        dsimp only
        rw [q_sI_at]
        exact k_stk_push hst.2.2
    · rw [if_neg (show ¬ nI s < 100 from fun q => q1 ((nI_ltI (a := s) (b := 100) ?_ (by decide)).mp q)), q_ck (q_g412_17 h1)]
      · rcases k_ty_inv hty with ⟨g1, g2, g3, rfl⟩ | ⟨q, -⟩ | ⟨q, -⟩ | ⟨q, -⟩ | ⟨q, -⟩
        · have hm : m ≤ 60 := by rw [hl, hlen]; exact ht2
          by_cases q3 : s < 1000
          · rw [if_pos (show nI s < 1000 from nI_lt (b := 1000) q3 (by decide)), q_ck (q_k412 h1), show nI s - (100 : Int32) = nI (s - 100) from pk_sub (a := s) (b := 100) (by omega), r_wordOf h1 hK1 hp hg (by omega), q_cI, q_p412_17 h1, q_ck (q_gwI (q_w418 h1) (show m < 64 by omega) (by decide)), q_lt, nI_clamp (show m < 2 ^ 31 by omega)]
            rw [show k_stp (k_wd K p g pl) s l = k_wd K p g pl (s - 100) :: l by unfold k_stp; rw [if_neg (by omega), if_pos g1]]
            exact push _ hm
          · rw [if_neg (show ¬ nI s < 1000 from fun q => q3 ((nI_ltI (a := s) (b := 1000) (by omega) (by decide)).mp q)), q_p412_17 h1, q_ck (q_gwI (q_w418 h1) (show m < 64 by omega) (by decide)), q_lt, nI_clamp (show m < 2 ^ 31 by omega), show nI s - (1000 : Int32) = nI (s - 1000) from pk_sub (a := s) (b := 1000) (by omega)]
            rw [show k_stp (k_wd K p g pl) s l = nI (s - 1000) :: l by unfold k_stp; rw [if_pos (by omega)]]
            exact push _ hm
        · omega
        · omega
        · omega
        · omega
      · rcases k_ty_inv hty with ⟨g1, g2, -⟩ | ⟨q, -⟩ | ⟨q, -⟩ | ⟨q, -⟩ | ⟨q, -⟩ <;> omega
  · rintro ⟨m, M1⟩ ⟨hl, he, hst⟩
    dsimp only at hl he hst ⊢
    have h1 := q_PI_eq he h
    have hK1 := k_at_eq he (by decide) hK
    refine ⟨M1, ?_, he⟩
    have hn7 : (K 7).toNatClampNeg = n := by rw [h7, nI_clamp (by omega)]
    rw [l_X12_isAllowed_6, q_ck (q_g412_0 h1), q_p412_0 h1, q_ck (show ir_ga M1 413 100 (7 : Int32) = true from k_g413 h1 (k := 7) (by decide)), show (7 : Int32).toNatClampNeg = 7 by decide +kernel, hK1.get (by decide), h7, if_neg (nI_nlt (Nat.le_refl n) (by omega))]
    unfold k_al
    rw [hn7]
    rcases hend with rfl | hend
    · have hm : m = 0 := hl
      subst hm
      rw [if_pos (by decide +kernel), q_ck (by decide +kernel)]
      rfl
    · obtain ⟨a, l', e1, h01, e2⟩ := k_fit1 (k_fit_ev (wd := k_wd K p g pl) n hend)
      have e3 : l' = [] := List.eq_nil_of_length_eq_zero e2
      subst e3
      rw [e1] at hl hst ⊢
      have hm : m = 1 := hl
      subst hm
      have h0 : ir_I M1 418 0 = a := hst.1
      rw [if_neg (by decide +kernel), q_ck (q_g412_17 h1), q_p412_17 h1, q_ck (show ir_ga M1 418 100 (0 : Int32) = true from q_gaI (q_a418 h1) (k := 0) (by decide) (by decide)), show (0 : Int32).toNatClampNeg = 0 by decide +kernel, h0]
      by_cases ha : a = 1
      · rw [if_pos ha, q_ck (by decide +kernel), ha]
        rfl
      · rw [if_neg ha, q_ck (by decide +kernel)]
        show _ = ir_oI (if decide (a = 1) = true then 1 else 0) M1
        rw [if_neg (by simpa using ha)]
