/-! the class's law -/
theorem k_c0 (x y : Int64) : lg_cmp x y = 0 ↔ x = y := by
  unfold lg_cmp
  simp only [gt_iff_lt, Int64.lt_iff_toInt_lt, ← Int64.toInt_inj]
  split
  · exact ⟨fun q => absurd q (by decide), fun q => by omega⟩
  · split
    · exact ⟨fun _ => by assumption, fun _ => rfl⟩
    · exact ⟨fun q => absurd q (by decide), fun q => by omega⟩
theorem k_c1 (x y : Int64) : lg_cmp x y < 0 ↔ x < y := by
  unfold lg_cmp
  simp only [gt_iff_lt, Int64.lt_iff_toInt_lt, ← Int64.toInt_inj]
  split
  · exact ⟨fun q => absurd q (by decide), fun q => by omega⟩
  · split
    · exact ⟨fun q => absurd q (by decide), fun q => by omega⟩
    · exact ⟨fun _ => by omega, fun _ => by decide⟩
theorem k_c2 (x y : Int64) : 0 < lg_cmp x y ↔ y < x := by
  unfold lg_cmp
  simp only [gt_iff_lt, Int64.lt_iff_toInt_lt, ← Int64.toInt_inj]
  split
  · exact ⟨fun _ => by assumption, fun _ => by decide⟩
  · split
    · exact ⟨fun q => absurd q (by decide), fun q => by omega⟩
    · exact ⟨fun q => absurd q (by decide), fun q => by omega⟩
def k_cd (s : Nat) : Nat := if 1000 ≤ s then s - 1000 else if 100 ≤ s then s + 900 else match s with
  | 10 => 2043
  | 11 => 2045
  | 12 => 2042
  | 13 => 2061
  | 14 => 2060
  | 15 => 2062
  | 16 => 2001
  | 17 => 2002
  | _ => 2000
theorem c_136 {d : Nat} {v : Int64} {M : ir_M} : v_X1_joined_136 d v M = ir_oI (k_bd v) M := by
  rw [l_X1_joined_136]
  unfold k_bd ir_mxl ir_mnl
  have e1 : ((1000000 : Int64)).toInt = 1000000 := by decide +kernel
  have e2 : ((-1000000 : Int64)).toInt = -1000000 := by decide +kernel
  by_cases h1 : (1000000 : Int64) < v
  · have h1' := Int64.lt_iff_toInt_lt.mp h1
    rw [if_pos ((k_c2 _ _).mpr h1), if_neg (show ¬ v < 1000000 from fun q => by have := Int64.lt_iff_toInt_lt.mp q; omega), if_neg (by decide +kernel)]
    rfl
  · rw [if_neg (fun q => h1 ((k_c2 _ _).mp q))]
    by_cases h2 : v < (-1000000 : Int64)
    · have h2' := Int64.lt_iff_toInt_lt.mp h2
      rw [if_pos ((k_c1 _ _).mpr h2), if_pos (show v < 1000000 from Int64.lt_iff_toInt_lt.mpr (by omega)), if_pos h2]
      rfl
    · rw [if_neg (fun q => h2 ((k_c1 _ _).mp q))]
      by_cases h3 : v < (1000000 : Int64)
      · rw [if_pos h3, if_neg h2]
      · have h4 : v = 1000000 := by
          rw [← Int64.toInt_inj]
          have a1 : ¬ (1000000 : Int64).toInt < v.toInt := fun q => h1 (Int64.lt_iff_toInt_lt.mpr q)
          have a2 : ¬ v.toInt < (1000000 : Int64).toInt := fun q => h3 (Int64.lt_iff_toInt_lt.mpr q)
          omega
        rw [if_neg h3, if_neg (by decide +kernel), h4]
theorem c_joined {d s : Nat} {a b : Int32} {M : ir_M} (hs : 10 ≤ s) (hs2 : s ≤ 17) (h01 : s = 16 ∨ s = 17 → (a = 0 ∨ a = 1) ∧ (b = 0 ∨ b = 1)) : m_X1_joined (d + 1) (nI (k_cd s)) a b M = ir_oI (k_dn s a b) M := by
  have hw8 : s = 10 ∨ s = 11 ∨ s = 12 ∨ s = 13 ∨ s = 14 ∨ s = 15 ∨ s = 16 ∨ s = 17 := by omega
  rw [e_X1_joined]
  rcases hw8 with rfl | rfl | rfl | rfl | rfl | rfl | rfl | rfl
  · rw [if_neg (by decide +kernel), if_neg (by decide +kernel), if_pos (by decide +kernel), c_136]
    rfl
  · rw [if_neg (by decide +kernel), if_neg (by decide +kernel), if_neg (by decide +kernel), if_pos (by decide +kernel), c_136]
    rfl
  · rw [if_neg (by decide +kernel), if_pos (by decide +kernel), c_136]
    rfl
  · rw [if_neg (by decide +kernel), if_neg (by decide +kernel), if_neg (by decide +kernel), if_neg (by decide +kernel), if_neg (by decide +kernel), if_pos (by decide +kernel)]
    show _ = ir_oI (if a = b then 1 else 0) M
    by_cases q : a = b
    · rw [if_pos q, if_pos q]
    · rw [if_neg q, if_neg q]
  · rw [if_neg (by decide +kernel), if_neg (by decide +kernel), if_neg (by decide +kernel), if_neg (by decide +kernel), if_pos (by decide +kernel)]
    show _ = ir_oI (if a < b then 1 else 0) M
    by_cases q : a < b
    · rw [if_pos q, if_pos q]
    · rw [if_neg q, if_neg q]
  · rw [if_neg (by decide +kernel), if_neg (by decide +kernel), if_neg (by decide +kernel), if_neg (by decide +kernel), if_neg (by decide +kernel), if_neg (by decide +kernel), if_pos (by decide +kernel)]
    show _ = ir_oI (if b < a then 1 else 0) M
    by_cases q : b < a
    · rw [if_pos q, if_pos q]
    · rw [if_neg q, if_neg q]
  · rw [if_pos (by decide +kernel)]
    obtain ⟨ha, hb⟩ := h01 (Or.inl rfl)
    have e1 : (a &&& b) = k_dn 16 a b := by
      rcases ha with rfl | rfl <;> rcases hb with rfl | rfl <;> decide +kernel
    rw [e1]
  · rw [if_neg (by decide +kernel), if_neg (by decide +kernel), if_neg (by decide +kernel), if_neg (by decide +kernel), if_neg (by decide +kernel), if_neg (by decide +kernel), if_neg (by decide +kernel)]
    obtain ⟨ha, hb⟩ := h01 (Or.inr rfl)
    have e1 : (a ||| b) = k_dn 17 a b := by
      rcases ha with rfl | rfl <;> rcases hb with rfl | rfl <;> decide +kernel
    rw [e1]
/-- the law of the Told at 4, whose steps are those of K -/
def c_rL (M : ir_M) (K : Nat → Int32) : Prop := M.1 7 0 = K 7 ∧ ∀ i, i < (K 7).toNatClampNeg → M.1 8 i = nI (k_cd (k_sp K i))
theorem k_tyb2 {s : Nat} {x y : Bool} {r t : List Bool} (h : k_ty s (x :: y :: r) = some t) (hs : s = 16 ∨ s = 17) : x = true ∧ y = true := by
  rcases k_ty_inv h with ⟨q, -⟩ | ⟨q, -⟩ | ⟨q, r', e, -⟩ | ⟨q, -⟩ | ⟨q, -⟩
  · omega
  · omega
  · cases e
    exact ⟨rfl, rfl⟩
  · omega
  · omega
theorem c_holds {M : ir_M} {K wd : Nat → Int32} {d : Nat} (h : q_PI M) (hw : k_wfL K) (hL : c_rL M K) (hwd : ∀ w, w < 8 → M.1 120 w = wd w) :
    ∃ M', m_X1_holds (d + 2) 7 120 M = ir_oI (if (match k_ev K wd (K 7).toNatClampNeg with | [] => true | [x] => decide (x = 1) | _ => false) then 1 else 0) M' ∧ q_eq [9] M M' := by
  obtain ⟨n, hn, h7, hs, ht, hend⟩ := hw
  have hn7 : (K 7).toNatClampNeg = n := by rw [h7, nI_clamp (by omega)]
  obtain ⟨hL1, hL2⟩ := hL
  rw [hn7] at hL2 ⊢
  rw [e_X1_holds, q_ck (q_g7_2 h), q_p7_2 h, q_ck (show ir_gw M 9 100 (0 : Int32) = true from q_gwI (q_w9 h) (k := 0) (by decide) (by decide)), q_lt, show (0 : Int32).toNatClampNeg = 0 by decide +kernel]
  refine q_lp (σ := Nat × ir_M) (V := fun i t => v_X1_holds_11 (d + 1) 7 120 (nI t.1) (nI i) t.2) (N := n)
    (I := fun i t => t.1 = (k_ev K wd i).length ∧ q_eq [9] M t.2 ∧ k_stk (t.2.1 9) (k_ev K wd i) ∧ (i = 0 → t.2.1 9 0 = 1))
    (R := fun r => ∃ M', r = ir_oI (if (match k_ev K wd n with | [] => true | [x] => decide (x = 1) | _ => false) then 1 else 0) M' ∧ q_eq [9] M M') ?_ ?_ n 0 (0, ir_sI M 9 0 1) (by omega) ⟨rfl, q_eq.sI (by decide), trivial, fun _ => ?_⟩
  · rintro i ⟨m, M1⟩ hi ⟨hl, he, hst, -⟩
    dsimp only at hl he hst ⊢
    refine Or.inr ?_
    have h1 := q_PI_eq he h
    obtain ⟨t, ht1, ht2⟩ := ht i (by omega)
    obtain ⟨t', ht3, ht4⟩ := ht (i + 1) (by omega)
    have hty := k_tys_s ht1 ht3
    have hf := k_fit_ev (wd := wd) i ht1
    have hlen := k_fit_len hf
    have hc : ir_I M1 8 i = nI (k_cd (k_sp K i)) := by
      show M1.1 8 i = _
      rw [he.1 8 (by decide)]
      exact hL2 i hi
    have hz : ir_I M1 7 0 = nI n := by
      show M1.1 7 0 = _
      rw [he.1 7 (by decide), hL1, h7]
    rw [l_X1_holds_11, q_ck (q_k7 h1), hz, if_pos (nI_lt hi (by omega)), q_ck (q_g7_1 h1), q_p7_1 h1, q_ck (q_gaI (q_a8 h1) (show i < 900 by omega) (by decide)), nI_clamp (show i < 2 ^ 31 by omega), hc]
    rw [show k_ev K wd (i + 1) = k_stp wd (k_sp K i) (k_ev K wd i) from rfl]
    generalize k_ev K wd i = l at hl hst hf hlen ⊢
    generalize k_sp K i = s at hty ⊢
    have push : ∀ v : Int32, ∃ t'' : Nat × ir_M, (t''.1 = (v :: l).length ∧ q_eq [9] M t''.2 ∧ k_stk (t''.2.1 9) (v :: l) ∧ (i + 1 = 0 → t''.2.1 9 0 = 1)) ∧ v_X1_holds_11 (d + 1) 7 120 (nI m + 1) (nI i + 1) (ir_sI M1 9 m v) = v_X1_holds_11 (d + 1) 7 120 (nI t''.1) (nI (i + 1)) t''.2 := by
      intro v
      refine ⟨(m + 1, ir_sI M1 9 m v), ⟨by rw [hl]; rfl, he.tr (q_eq.sI (by decide)), ?_, fun q => by omega⟩, by rw [nI_1, nI_1]⟩
      dsimp only
      rw [q_sI_at, hl]
      exact k_stk_push hst
    by_cases q1 : s < 100
    · by_cases q2 : s = 18
      · subst q2
        rw [if_neg (by decide +kernel), if_pos (by decide +kernel)]
        rcases k_ty_inv hty with ⟨q, -⟩ | ⟨-, r, rfl, rfl⟩ | ⟨q, -⟩ | ⟨q, -⟩ | ⟨q, -⟩
        · omega
        · obtain ⟨a, l', rfl, h01, hl'⟩ := k_fit1 hf
          simp only [List.length_cons] at hl ht2
          have e1 : nI m - (1 : Int32) = nI l'.length := by rw [hl]; exact nI_pred _
          have hpos : (0 : Int32) < nI m := nI_lt (a := 0) (by omega) (by omega)
          have h01 := h01 rfl
          rw [q_ck (q_g7_2 h1), if_pos hpos, q_p7_2 h1, e1, l_X1_holds_97, q_ck (q_gaI (q_a9 h1) (show l'.length < 64 by omega) (by decide)), q_ck (q_gwI (q_w9 h1) (show l'.length < 64 by omega) (by decide)), q_lt, nI_clamp (show l'.length < 2 ^ 31 by omega), show ir_I M1 9 l'.length = a from hst.1, show a ^^^ (1 : Int32) = 1 - a by rcases h01 with rfl | rfl <;> decide +kernel]
          refine ⟨(m, ir_sI M1 9 l'.length (1 - a)), ⟨?_, he.tr (q_eq.sI (by decide)), ?_, fun q => by omega⟩, by rw [nI_1]⟩
          · rw [hl]
            rfl
          · dsimp only
            rw [q_sI_at]
            exact k_stk_push hst.2
        · omega
        · omega
        · omega
      · obtain ⟨b10, b17, x, y, r, z, rfl, rfl⟩ := k_tyb hty q1 q2
        have hcd : 2001 ≤ k_cd s ∧ k_cd s ≤ 2062 := by
          have : s = 10 ∨ s = 11 ∨ s = 12 ∨ s = 13 ∨ s = 14 ∨ s = 15 ∨ s = 16 ∨ s = 17 := by omega
          rcases this with rfl | rfl | rfl | rfl | rfl | rfl | rfl | rfl <;> decide
        rw [if_neg (show ¬ nI (k_cd s) < 1008 from fun q => by have := (nI_ltI (a := k_cd s) (b := 1008) (by omega) (by decide)).mp q; omega), if_neg (show ¬ nI (k_cd s) = 2000 from fun q => by have := (nI_eq (a := k_cd s) (b := 2000) (by omega) (by decide)).mp q; omega)]
        obtain ⟨b, a, l', rfl, hb, ha, hl'⟩ := k_fit2 hf
        simp only [List.length_cons] at hl ht2
        have e1 : nI m + (-1 : Int32) = nI (l'.length + 1) := by rw [hl]; exact pk_m1 _
        have e2 : nI (l'.length + 1) - (1 : Int32) = nI l'.length := nI_pred _
        rw [if_pos (show (1 : Int32) < nI m from nI_lt (a := 1) (by omega) (by omega)), q_ck (q_g7_2 h1), q_ck (q_g7_2 h1), q_p7_2 h1, e1, e2, q_ck (q_gaI (q_a9 h1) (show l'.length < 64 by omega) (by decide)), q_ck (q_g7_2 h1), q_ck (q_gaI (q_a9 h1) (show l'.length + 1 < 64 by omega) (by decide)), nI_clamp (show l'.length < 2 ^ 31 by omega), nI_clamp (show l'.length + 1 < 2 ^ 31 by omega), show ir_I M1 9 l'.length = a from hst.2.1, show ir_I M1 9 (l'.length + 1) = b from hst.1, c_joined b10 b17 (fun q => ⟨ha (k_tyb2 hty q).2, hb (k_tyb2 hty q).1⟩), q_cI, q_ck (q_gwI (q_w9 h1) (show l'.length < 64 by omega) (by decide)), q_lt, k_stp2 q1 q2]
        refine ⟨(l'.length + 1, ir_sI M1 9 l'.length (k_dn s a b)), ⟨rfl, he.tr (q_eq.sI (by decide)), ?_, fun q => by omega⟩, by rw [nI_1]⟩
        dsimp only
        rw [q_sI_at]
        exact k_stk_push hst.2.2
    · rcases k_ty_inv hty with ⟨g1, g2, g3, rfl⟩ | ⟨q, -⟩ | ⟨q, -⟩ | ⟨q, -⟩ | ⟨q, -⟩
      · have hm : m ≤ 60 := by rw [hl, hlen]; exact ht2
        by_cases q3 : 1000 ≤ s
        · have ec : k_cd s = s - 1000 := if_pos q3
          rw [ec, if_pos (show nI (s - 1000) < 1008 from nI_lt (b := 1008) (by omega) (by decide)), if_pos (show nI m < 64 from nI_lt (b := 64) (by omega) (by decide)), q_ck (q_g7_2 h1), if_pos (show nI (s - 1000) < 1000 from nI_lt (b := 1000) (by omega) (by decide)), q_p7_2 h1, q_ck (q_gwI (q_w9 h1) (show m < 64 by omega) (by decide)), q_lt, nI_clamp (show m < 2 ^ 31 by omega)]
          rw [show k_stp wd s l = nI (s - 1000) :: l by unfold k_stp; rw [if_pos q3]]
          exact push _
        · have ec : k_cd s = s + 900 := by unfold k_cd; rw [if_neg q3, if_pos g1]
          have e3 : nI (s + 900) - (1000 : Int32) = nI (s - 100) := by rw [show nI (s + 900) - (1000 : Int32) = nI (s + 900 - 1000) from pk_sub (a := s + 900) (b := 1000) (by omega), show s + 900 - 1000 = s - 100 by omega]
          have hw1 : ir_I M1 120 (s - 100) = wd (s - 100) := by
            show M1.1 120 (s - 100) = _
            rw [he.1 120 (by decide)]
            exact hwd _ (by omega)
          rw [ec, if_pos (show nI (s + 900) < 1008 from nI_lt (b := 1008) (by omega) (by decide)), if_pos (show nI m < 64 from nI_lt (b := 64) (by omega) (by decide)), q_ck (q_g7_2 h1), if_neg (show ¬ nI (s + 900) < 1000 from fun q => by have := (nI_ltI (a := s + 900) (b := 1000) (by omega) (by decide)).mp q; omega), e3, q_ck (q_gaI (q_a120 h1) (show s - 100 < 8 by omega) (by decide)), q_p7_2 h1, q_ck (q_gwI (q_w9 h1) (show m < 64 by omega) (by decide)), q_lt, nI_clamp (show m < 2 ^ 31 by omega), nI_clamp (show s - 100 < 2 ^ 31 by omega), hw1]
          rw [show k_stp wd s l = wd (s - 100) :: l by unfold k_stp; rw [if_neg q3, if_pos g1]]
          exact push _
      · omega
      · omega
      · omega
      · omega
  · rintro ⟨m, M1⟩ ⟨hl, he, hst, h0⟩
    dsimp only at hl he hst h0 ⊢
    have h1 := q_PI_eq he h
    refine ⟨M1, ?_, he⟩
    have hz : ir_I M1 7 0 = nI n := by
      show M1.1 7 0 = _
      rw [he.1 7 (by decide), hL1, h7]
    rw [l_X1_holds_11, q_ck (q_k7 h1), hz, if_neg (nI_nlt (Nat.le_refl n) (by omega)), q_ck (q_g7_2 h1), q_p7_2 h1, q_ck (show ir_ga M1 9 100 (0 : Int32) = true from q_gaI (q_a9 h1) (k := 0) (by decide) (by decide)), show (0 : Int32).toNatClampNeg = 0 by decide +kernel]
    rcases hend with rfl | hend
    · rw [show ir_I M1 9 0 = 1 from h0 rfl, if_neg (by decide +kernel), q_ck (by decide +kernel)]
      rfl
    · obtain ⟨a, l', e1, h01, e2⟩ := k_fit1 (k_fit_ev (wd := wd) n hend)
      have e3 : l' = [] := List.eq_nil_of_length_eq_zero e2
      subst e3
      rw [e1] at hst ⊢
      rw [show ir_I M1 9 0 = a from hst.1]
      rcases h01 rfl with rfl | rfl
      · rw [if_pos rfl, q_ck (by decide +kernel)]
        rfl
      · rw [if_neg (by decide +kernel), q_ck (by decide +kernel)]
        rfl
  · show (ir_sI M 9 0 1).1 9 0 = 1
    rw [q_sI_at]
    exact if_pos rfl
