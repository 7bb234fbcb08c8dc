/-! THE WELL: the law, what a reading does to both sides -/
def k_LI (K : Nat → Int32) (c : Nat) (τ : List Bool) : Prop := K 7 = nI c ∧ (∀ i, i < c → K (717 + i) = nI (k_sp K i)) ∧ (∀ i, i ≤ c → ∃ t, k_tys K i = some t ∧ t.length ≤ 60) ∧ k_tys K c = some τ
def k_lw (K K' : Nat → Int32) : Prop := ∀ k, k ≠ 7 → k < 717 ∨ 1617 ≤ k → K' k = K k
theorem k_lw_rf (K : Nat → Int32) : k_lw K K := fun _ _ _ => rfl
theorem k_lw_tr {K K' K'' : Nat → Int32} (h : k_lw K K') (h' : k_lw K' K'') : k_lw K K'' := fun k h1 h2 => (h' k h1 h2).trans (h k h1 h2)
theorem k_lw_s {K : Nat → Int32} {c st : Nat} (hc : c < 900) : k_lw K (k_stp1 K c st) := fun k h1 h2 => by
  unfold k_stp1
  rw [if_neg h1, if_neg (by omega)]
theorem k_stp1_sp {K : Nat → Int32} {c st : Nat} (hst : st < 2000) : k_sp (k_stp1 K c st) c = st ∧ ∀ i, i ≠ c → k_sp (k_stp1 K c st) i = k_sp K i := by
  unfold k_sp k_stp1
  refine ⟨?_, fun i hi => ?_⟩
  · rw [if_neg (by omega), if_pos rfl, nI_clamp (by omega)]
  · rw [if_neg (by omega), if_neg (by omega)]
theorem k_tys_lt {K K' : Nat → Int32} {c : Nat} (h : ∀ i, i < c → k_sp K' i = k_sp K i) : ∀ i, i ≤ c → k_tys K' i = k_tys K i
  | 0, _ => rfl
  | i + 1, hi => by
    unfold k_tys
    rw [k_tys_lt h i (by omega), h i (by omega)]
theorem k_LI_s {K : Nat → Int32} {c st : Nat} {τ τ' : List Bool} (h : k_LI K c τ) (hst : st < 2000) (ht : k_ty st τ = some τ') (hl : τ'.length ≤ 60) : k_LI (k_stp1 K c st) (c + 1) τ' := by
  obtain ⟨h1, h2, h3, h4⟩ := h
  obtain ⟨s1, s2⟩ := k_stp1_sp (K := K) (c := c) hst
  have e := k_tys_lt (K := K) (K' := k_stp1 K c st) (c := c) (fun i hi => s2 i (by omega))
  have last : k_tys (k_stp1 K c st) (c + 1) = some τ' := by
    show (match k_tys (k_stp1 K c st) c with
      | some l => k_ty (k_sp (k_stp1 K c st) c) l
      | none => none) = some τ'
    rw [e c (Nat.le_refl _), h4, s1]
    exact ht
  refine ⟨if_pos rfl, fun i hi => ?_, fun i hi => ?_, last⟩
  · by_cases q : i = c
    · rw [q, s1]
      show (if 717 + c = 7 then _ else if 717 + c = 717 + c then nI st else _) = _
      rw [if_neg (by omega), if_pos rfl]
    · rw [s2 i q]
      show (if 717 + i = 7 then _ else if 717 + i = 717 + c then nI st else _) = _
      rw [if_neg (by omega), if_neg (by omega)]
      exact h2 i (by omega)
  · by_cases q : i = c + 1
    · rw [q]; exact ⟨τ', last, hl⟩
    · rw [e i (by omega)]; exact h3 i (by omega)
/-- cells of people yet to come -/
def c_xt (M : ir_M) (K : Nat → Int32) : Prop := (∀ p, p < 8 → k_n K ≤ p → ir_I M 103 p = 0) ∧ (∀ k, k < 64 → ir_I M 108 k = K (109 + k)) ∧ ∀ p, p < 8 → ir_I M 113 p = K (34 + p)
def c_K (M : ir_M) (K : Nat → Int32) : Prop := c_tdT M 101 K ∧ c_ap M 101 K ∧ c_st M 109 K ∧ c_xt M K
theorem c_K_eq {M M' : ir_M} {K : Nat → Int32} {S : List Nat} (he : q_eq S M M') (hS : ∀ a, a ∈ S → a = 100 ∨ a = 106) (h : c_K M K) : c_K M' K := by
  have nn : ∀ a, a ≠ 100 → a ≠ 106 → M'.1 a = M.1 a := fun a h1 h2 => he.1 a (fun q => by have := hS a q; omega)
  exact ⟨c_tdT_fr (fun j h1 h2 h3 => nn _ (by omega) (by omega)) h.1, c_ap_fr (nn _ (by decide) (by decide)) h.2.1, c_st_fr (fun j h1 => nn _ (by omega) (by omega)) h.2.2.1, fun p h1 h2 => (congrFun (nn 103 (by decide) (by decide)) p).trans (h.2.2.2.1 p h1 h2), fun k h1 => (congrFun (nn 108 (by decide) (by decide)) k).trans (h.2.2.2.2.1 k h1), fun p h1 => (congrFun (nn 113 (by decide) (by decide)) p).trans (h.2.2.2.2.2 p h1)⟩
def k_bsz (K : Nat → Int32) : Prop := k_n K ≤ 8 ∧ k_g K ≤ 6 ∧ k_m K ≤ 8 ∧ k_w K ≤ 8 ∧ k_na K ≤ 8 ∧ ∃ g : Nat, g ≤ 6 ∧ K 1 = nI g
theorem k_bsz_w {K K' : Nat → Int32} (h : k_bsz K) (e : ∀ k, k < 717 → k ≠ 7 → K' k = K k) : k_bsz K' := by
  unfold k_bsz k_n k_g k_m k_w k_na at *
  rw [e 2 (by decide) (by decide), e 1 (by decide) (by decide), e 9 (by decide) (by decide), e 44 (by decide) (by decide), e 6 (by decide) (by decide)]
  exact h
theorem k_lw_7 {K K' : Nat → Int32} (h : k_lw K K') : ∀ k, k < 717 → k ≠ 7 → K' k = K k := fun k h1 h2 => h k h2 (Or.inl h1)
theorem c_K_g {M M' : ir_M} {K K' : Nat → Int32} (hb : k_bsz K) (hM : ∀ a, a ≠ 100 → a ≠ 104 → a ≠ 105 → a ≠ 106 → M'.1 a = M.1 a) (hK : ∀ k, k < 717 → k ≠ 7 → K' k = K k) (h7 : ir_I M' 104 0 = K' 7) (hs : ∀ i, i < (K' 7).toNatClampNeg → ir_I M' 105 i = nI (k_cd (k_sp K' i))) (h : c_K M K) : c_K M' K' := by
  obtain ⟨⟨z1, z2, z3, z4, z5, z6, z7, z8, z9, z10, z11, z12⟩, h2, h3, x1, x2, x3⟩ := h
  obtain ⟨b1, b2, b3, b4, b5, -⟩ := hb
  have ek : ∀ a k, a ≠ 100 → a ≠ 104 → a ≠ 105 → a ≠ 106 → ir_I M' a k = ir_I M a k := fun a k h1 h2 h3 h4 => congrFun (hM a h1 h2 h3 h4) k
  have en : k_n K' = k_n K := by unfold k_n; rw [hK 2 (by decide) (by decide)]
  have eg : k_g K' = k_g K := by unfold k_g; rw [hK 1 (by decide) (by decide)]
  have em : k_m K' = k_m K := by unfold k_m; rw [hK 9 (by decide) (by decide)]
  have ew : k_w K' = k_w K := by unfold k_w; rw [hK 44 (by decide) (by decide)]
  have ea : k_na K' = k_na K := by unfold k_na; rw [hK 6 (by decide) (by decide)]
  refine ⟨⟨?_, ?_, ?_, ?_, ?_, ?_, ?_, fun p hp => ?_, fun p g hp hg => ?_, fun p q hp hq => ?_, h7, hs⟩, fun p hp => ?_, ⟨?_, ?_, ?_, ?_, fun i hi => ?_, fun p hp => ?_, fun p hp => ?_, fun p hp => ?_, fun i hi => ?_⟩, fun p hp hn => ?_, fun k hk => ?_, fun p hp => ?_⟩
  · rw [ek _ _ (by decide) (by decide) (by decide) (by decide), hK 0 (by decide) (by decide)]; exact z1
  · rw [ek _ _ (by decide) (by decide) (by decide) (by decide), hK 1 (by decide) (by decide)]; exact z2
  · rw [ek _ _ (by decide) (by decide) (by decide) (by decide), hK 2 (by decide) (by decide)]; exact z3
  · rw [ek _ _ (by decide) (by decide) (by decide) (by decide), hK 6 (by decide) (by decide)]; exact z4
  · rw [ek _ _ (by decide) (by decide) (by decide) (by decide), hK 3 (by decide) (by decide)]; exact z5
  · rw [ek _ _ (by decide) (by decide) (by decide) (by decide), hK 4 (by decide) (by decide)]; exact z6
  · rw [ek _ _ (by decide) (by decide) (by decide) (by decide), hK 5 (by decide) (by decide)]; exact z7
  · rw [en] at hp; rw [ek _ _ (by decide) (by decide) (by decide) (by decide), hK _ (by omega) (by omega)]; exact z8 p hp
  · rw [en] at hp; rw [eg] at hg; rw [ek _ _ (by decide) (by decide) (by decide) (by decide), hK _ (by omega) (by omega)]; exact z9 p g hp hg
  · rw [en] at hp hq; rw [ek _ _ (by decide) (by decide) (by decide) (by decide), hK _ (by omega) (by omega)]; exact z10 p q hp hq
  · rw [en] at hp
    obtain ⟨x, x1, x2, x3⟩ := h2 p hp
    refine ⟨x, x1, by rw [ek _ _ (by decide) (by decide) (by decide) (by decide)]; exact x2, fun q hq => (x3 q hq).trans ?_⟩
    unfold k_ap
    rw [ea, Bool.eq_iff_iff, List.any_eq_true, List.any_eq_true]
    constructor
    · rintro ⟨k, k1, k2⟩
      have := List.mem_range.mp k1
      refine ⟨k, k1, ?_⟩
      rw [hK _ (by omega) (by omega), hK _ (by omega) (by omega)]
      exact k2
    · rintro ⟨k, k1, k2⟩
      have := List.mem_range.mp k1
      refine ⟨k, k1, ?_⟩
      rw [hK _ (by omega) (by omega), hK _ (by omega) (by omega)] at k2
      exact k2
  · rw [ek _ _ (by decide) (by decide) (by decide) (by decide), hK _ (by omega) (by omega)]; exact h3.1
  · rw [ek _ _ (by decide) (by decide) (by decide) (by decide), hK _ (by omega) (by omega)]; exact h3.2.1
  · rw [ek _ _ (by decide) (by decide) (by decide) (by decide), hK _ (by omega) (by omega)]; exact h3.2.2.1
  · rw [ek _ _ (by decide) (by decide) (by decide) (by decide), hK _ (by omega) (by omega)]; exact h3.2.2.2.1
  · rw [em] at hi; rw [ek _ _ (by decide) (by decide) (by decide) (by decide), hK _ (by omega) (by omega)]; exact h3.2.2.2.2.1 i hi
  · rw [en] at hp; rw [ek _ _ (by decide) (by decide) (by decide) (by decide), hK _ (by omega) (by omega)]; exact h3.2.2.2.2.2.1 p hp
  · rw [en] at hp; rw [ek _ _ (by decide) (by decide) (by decide) (by decide), hK _ (by omega) (by omega)]; exact h3.2.2.2.2.2.2.1 p hp
  · rw [en] at hp; rw [ek _ _ (by decide) (by decide) (by decide) (by decide), hK _ (by omega) (by omega)]; exact h3.2.2.2.2.2.2.2.1 p hp
  · rw [ew] at hi; rw [ek _ _ (by decide) (by decide) (by decide) (by decide), hK _ (by omega) (by omega)]; exact h3.2.2.2.2.2.2.2.2 i hi
  · rw [en] at hn; rw [ek _ _ (by decide) (by decide) (by decide) (by decide)]; exact x1 p hp hn
  · rw [ek _ _ (by decide) (by decide) (by decide) (by decide), hK _ (by omega) (by omega)]; exact x2 k hk
  · rw [ek _ _ (by decide) (by decide) (by decide) (by decide), hK _ (by omega) (by omega)]; exact x3 p hp
def c_P (B : Nat → Nat) (n L : Nat) (xs : Nat → Int32) (M0 : ir_M) (s : Nat) (K : Nat → Int32) (M : ir_M) : Prop := c_T B n L xs M0 s M ∧ c_K M K
def c_Q (B : Nat → Nat) (n L : Nat) (xs : Nat → Int32) (M0 : ir_M) (f p : Nat) (K : Nat → Int32) (M : ir_M) : Prop := (f = 0 → c_P B n L xs M0 p K M) ∧ (f ≠ 0 → c_F B n L xs M0 f p M)
def r_P (B : Nat → Nat) (n L : Nat) (xs : Nat → Int32) (M0 : ir_M) (dp s : Nat) (K : Nat → Int32) (M : ir_M) : Prop := r_T B n L xs M0 dp s M ∧ ∀ k, ir_I M 414 k = K k
def r_Q (B : Nat → Nat) (n L : Nat) (xs : Nat → Int32) (M0 : ir_M) (dp f p : Nat) (K : Nat → Int32) (M : ir_M) : Prop := (f = 0 → r_P B n L xs M0 dp p K M) ∧ (f ≠ 0 → r_F B n L xs M0 f p M)
def k_1 (f : Nat) : Int32 := if f = 0 then nI 1 else nI 0
section WL
variable {B : Nat → Nat} {n L : Nat} {xs : Nat → Int32} {M0 M : ir_M} {d dp s f p : Nat} {K : Nat → Int32}
theorem r_P_n (h : r_P B n L xs M0 dp s K M) (hd : 3 ≤ d) : ∃ M', m_X12_readsOn d 412 M = ir_oV M' ∧ r_P B n L xs M0 dp (k_nt B n s) K M' := by
  obtain ⟨M', e1, t1, q1⟩ := r_next h.1 hd
  exact ⟨M', e1, t1, fun k => (q_I_eq q1 (by decide) k).trans (h.2 k)⟩
theorem c_P_n (h : c_P B n L xs M0 s K M) (hd : 8 ≤ d) : ∃ M', m_X4_next d 100 M = ir_oV M' ∧ c_P B n L xs M0 (k_nt B n s) K M' := by
  obtain ⟨M', e1, t1, q1⟩ := c_next h.1 hd
  exact ⟨M', e1, t1, c_K_eq q1 (by decide) h.2⟩
/-- a step laid -/
theorem r_P_s (h : r_P B n L xs M0 dp s K M) {c st : Nat} (hc : c < 900) (h7 : K 7 = nI c) (hd : 1 ≤ d) : ∃ M', m_X12_laysStep d 412 (nI st) M = ir_oV M' ∧ r_P B n L xs M0 dp s (k_stp1 K c st) M' := by
  obtain ⟨M', e1, t1, k1⟩ := r_ly h.1 hc ((h.2 7).trans h7) (st := st) hd
  refine ⟨M', e1, t1, fun k => (k1 k).trans ?_⟩
  unfold k_stp1
  rw [h.2 k]
theorem c_P_s (h : c_P B n L xs M0 s K M) (hb : k_bsz K) {c st : Nat} (hst : st < 2000) (hc : c < 900) (h7 : K 7 = nI c) (hd : 1 ≤ d) : ∃ M', m_X1_add d 104 (nI (k_cd st)) M = ir_oV M' ∧ c_P B n L xs M0 s (k_stp1 K c st) M' := by
  obtain ⟨hT, hK⟩ := h
  obtain ⟨z11, z12⟩ := hK.1.2.2.2.2.2.2.2.2.2.2
  have h4 : ir_I M 104 0 = nI c := z11.trans h7
  obtain ⟨M', e1, q1, cn, k1⟩ := c_add (d := d) (v := nI (k_cd st)) hT.1.1 (by omega) h4 hd
  obtain ⟨k2, k3, k4⟩ := k1 hc
  obtain ⟨s1, s2⟩ := k_stp1_sp (K := K) (c := c) hst
  have e7 : k_stp1 K c st 7 = nI (c + 1) := if_pos rfl
  refine ⟨M', e1, c_T_eq hT q1 (by decide) cn, c_K_g hb (fun a _ h1 h2 _ => q1.1 a (fun q => by
    rcases List.mem_cons.mp q with w | w
    · exact h1 w
    · exact h2 (List.mem_singleton.mp w))) (k_lw_7 (k_lw_s hc)) (k2.trans e7.symm) (fun i hi => ?_) hK⟩
  rw [e7, nI_clamp (by omega)] at hi
  by_cases q : i = c
  · rw [q, s1]; exact k3
  · rw [s2 i q, k4 i q]
    exact z12 i (by rw [h7, nI_clamp (by omega)]; omega)
theorem c_F_s (h : c_F B n L xs M0 f p M) {v : Int32} (hd : 1 ≤ d) : ∃ M', m_X1_add d 104 v M = ir_oV M' ∧ c_F B n L xs M0 f p M' := by
  obtain ⟨c, c1, c2⟩ := h.2.2.1
  obtain ⟨M', e1, q1, cn, k1⟩ := c_add (d := d) (v := v) h.1.1 c1 c2 hd
  exact ⟨M', e1, c_F_eq h q1 (by decide) cn⟩
/-- a reading: the class's and the reference's -/
def w_W (B : Nat → Nat) (n L : Nat) (xs : Nat → Int32) (m dp tl : Nat) (b : Bool) (C R : Nat → ir_M → ir_R) : Prop := ∀ (s : Nat) (K : Nat → Int32) (c : Nat) (τ : List Bool), s ≤ n → k_LI K c τ → c ≤ s → τ.length ≤ tl → k_bsz K → ∃ (f p : Nat) (K' : Nat → Int32) (c' : Nat), f ≤ 4 ∧ s ≤ p ∧ p ≤ n ∧ (f = 0 → s < p ∧ c' + s ≤ c + p ∧ k_lw K K' ∧ k_LI K' c' (b :: τ)) ∧ (∀ M0 M d, m ≤ d → c_P B n L xs M0 s K M → ∃ M', C d M = ir_oI (k_1 f) M' ∧ c_Q B n L xs M0 f p K' M') ∧ (∀ M0 M d, m ≤ d → r_P B n L xs M0 dp s K M → ∃ M', R d M = ir_oV M' ∧ r_Q B n L xs M0 dp f p K' M')
theorem w_loop {m tl : Nat} {b : Bool} {CY RY RL : Nat → ir_M → ir_R} {CL : Nat → Int32 → Int32 → ir_M → ir_R} {op : Nat → Nat} (hm : 1 ≤ m) (h900 : n ≤ 900) (htl : tl ≤ 50) (hY : w_W B n L xs m dp (tl + 1) b CY RY)
    (hop : ∀ k, op k ≠ 0 → k ≠ 0 ∧ op k < 2000 ∧ ∀ τ, k_ty (op k) (b :: b :: τ) = some (b :: τ))
    (hC0 : ∀ M0 M d i s, m ≤ d → i ≤ 900 → c_T B n L xs M0 s M → op (k_kd B n s) = 0 → CL d (nI 1) (nI i) M = ir_oI (nI 1) M)
    (hCF : ∀ M0 M d i f p, i ≤ 1000 → c_F B n L xs M0 f p M → CL d (nI 0) (nI i) M = ir_oI (nI 0) M)
    (hC1 : ∀ M0 M d i s, m ≤ d → i < n → c_T B n L xs M0 s M → op (k_kd B n s) ≠ 0 → ∃ M1, c_T B n L xs M0 (k_nt B n s) M1 ∧ q_eq [100] M M1 ∧ ∀ r M2 M4, CY d M1 = ir_oI r M2 → q_PI M2 → m_X1_add d 104 (nI (k_cd (op (k_kd B n s)))) M2 = ir_oV M4 → CL d (nI 1) (nI i) M = CL d r (nI (i + 1)) M4)
    (hR0 : ∀ M0 M d s, m ≤ d → r_T B n L xs M0 dp s M → op (k_kd B n s) = 0 → RL d M = ir_oV M)
    (hRF : ∀ M0 M d f p, m ≤ d → r_F B n L xs M0 f p M → RL d M = ir_oV M)
    (hR1 : ∀ M0 M d s, m ≤ d → r_T B n L xs M0 dp s M → op (k_kd B n s) ≠ 0 → ∃ M1, r_T B n L xs M0 dp (k_nt B n s) M1 ∧ q_eq [412] M M1 ∧ ∀ M2 M3, RY d M1 = ir_oV M2 → q_PI M2 → m_X12_laysStep d 412 (nI (op (k_kd B n s))) M2 = ir_oV M3 → RL d M = RL d M3) :
    ∀ (r s : Nat) (K : Nat → Int32) (c : Nat) (τ : List Bool), s + r = n → k_LI K c (b :: τ) → c ≤ s → τ.length ≤ tl → k_bsz K → ∃ (f p : Nat) (K' : Nat → Int32) (c' : Nat), f ≤ 4 ∧ s ≤ p ∧ p ≤ n ∧ (f = 0 → c' + s ≤ c + p ∧ k_lw K K' ∧ k_LI K' c' (b :: τ)) ∧ (∀ M0 M d i, m ≤ d → i ≤ s → c_P B n L xs M0 s K M → ∃ M', CL d (nI 1) (nI i) M = ir_oI (k_1 f) M' ∧ c_Q B n L xs M0 f p K' M') ∧ (∀ M0 M d, m ≤ d → r_P B n L xs M0 dp s K M → ∃ M', RL d M = ir_oV M' ∧ r_Q B n L xs M0 dp f p K' M') := by
  intro r
  induction r using Nat.strongRecOn with
  | ind r ih =>
    intro s K c τ hs hL hc ht hb
    obtain ⟨b1, b2, b3, b4, b5, b6, b7, b8⟩ := k_nt_b (B := B) (show s ≤ n by omega)
    by_cases q : op (k_kd B n s) = 0
    · refine ⟨0, s, K, c, by decide, Nat.le_refl _, by omega, fun _ => ⟨Nat.le_refl _, k_lw_rf K, hL⟩, fun M0 M d i hd hi hP => ⟨M, hC0 M0 M d i s hd (by omega) hP.1 q, fun _ => hP, fun z => absurd rfl z⟩, fun M0 M d hd hP => ⟨M, hR0 M0 M d s hd hP.1 q, fun _ => hP, fun z => absurd rfl z⟩⟩
    · obtain ⟨o1, o2, o3⟩ := hop _ q
      have sn : s < n := by
        have := b4.mpr
        omega
      have s1 := b3 o1
      obtain ⟨f1, p1, K1, c1, y1, y2, y3, y4, y5, y6⟩ := hY (k_nt B n s) K c (b :: τ) b2 hL (by omega) (by rw [List.length_cons]; omega) hb
      by_cases qf : f1 = 0
      · obtain ⟨w1, w2, w3, w4⟩ := y4 qf
        have hb1 := k_bsz_w hb (k_lw_7 w3)
        have L1 := k_LI_s w4 o2 (o3 τ) (by rw [List.length_cons]; omega)
        have hc1 : c1 < 900 := by omega
        have hb2 := k_bsz_w hb1 (k_lw_7 (k_lw_s (st := op (k_kd B n s)) hc1))
        obtain ⟨f, p, K', c', v1, v2, v3, v4, v5, v6⟩ := ih (n - p1) (by omega) p1 (k_stp1 K1 c1 (op (k_kd B n s))) (c1 + 1) τ (by omega) L1 (by omega) ht hb2
        refine ⟨f, p, K', c', v1, by omega, v3, fun z => ?_, fun M0 M d i hd hi hP => ?_, fun M0 M d hd hP => ?_⟩
        · obtain ⟨v7, v8, v9⟩ := v4 z
          exact ⟨by omega, k_lw_tr w3 (k_lw_tr (k_lw_s hc1) v8), v9⟩
        · obtain ⟨M1, t1, q1, g1⟩ := hC1 M0 M d i s hd (by omega) hP.1 q
          obtain ⟨M2, e2, Q2⟩ := y5 M0 M1 d hd ⟨t1, c_K_eq q1 (by decide) hP.2⟩
          have P2 := Q2.1 qf
          obtain ⟨M4, e4, P4⟩ := c_P_s (d := d) P2 hb1 o2 hc1 w4.1 (by omega)
          have E := g1 _ M2 M4 e2 P2.1.1.1 e4
          obtain ⟨M', e', Q'⟩ := v5 M0 M4 d (i + 1) hd (by omega) P4
          refine ⟨M', ?_, Q'⟩
          rw [E, qf]
          exact e'
        · obtain ⟨M1, t1, q1, g1⟩ := hR1 M0 M d s hd hP.1 q
          obtain ⟨M2, e2, Q2⟩ := y6 M0 M1 d hd ⟨t1, fun k => (q_I_eq q1 (by decide) k).trans (hP.2 k)⟩
          have P2 := Q2.1 qf
          obtain ⟨M4, e4, P4⟩ := r_P_s (d := d) (st := op (k_kd B n s)) P2 hc1 w4.1 (by omega)
          have E := g1 M2 M4 e2 P2.1.1.1 e4
          obtain ⟨M', e', Q'⟩ := v6 M0 M4 d hd P4
          exact ⟨M', E.trans e', Q'⟩
      · refine ⟨f1, p1, K1, c1, y1, by omega, y3, fun z => absurd z qf, fun M0 M d i hd hi hP => ?_, fun M0 M d hd hP => ?_⟩
        · obtain ⟨M1, t1, q1, g1⟩ := hC1 M0 M d i s hd (by omega) hP.1 q
          obtain ⟨M2, e2, Q2⟩ := y5 M0 M1 d hd ⟨t1, c_K_eq q1 (by decide) hP.2⟩
          have P2 := Q2.2 qf
          obtain ⟨M4, e4, P4⟩ := c_F_s (d := d) (v := nI (k_cd (op (k_kd B n s)))) P2 (by omega)
          have E := g1 _ M2 M4 e2 P2.1.1 e4
          refine ⟨M4, ?_, fun z => absurd z qf, fun _ => P4⟩
          rw [E, show k_1 f1 = nI 0 from if_neg qf]
          exact hCF M0 M4 d (i + 1) f1 p1 (by omega) P4
        · obtain ⟨M1, t1, q1, g1⟩ := hR1 M0 M d s hd hP.1 q
          obtain ⟨M2, e2, Q2⟩ := y6 M0 M1 d hd ⟨t1, fun k => (q_I_eq q1 (by decide) k).trans (hP.2 k)⟩
          have P2 := Q2.2 qf
          have E := g1 M2 M2 e2 P2.1.1 (r_lyF P2 (by omega))
          exact ⟨M2, E.trans (hRF M0 M2 d f1 p1 hd P2), fun z => absurd z qf, fun _ => P2⟩
/-- Y, then the loop -/
theorem w_seq {m tl : Nat} {b : Bool} {CY RY RL CX RX : Nat → ir_M → ir_R} {CL : Nat → Int32 → Int32 → ir_M → ir_R} (hY : w_W B n L xs m dp (tl + 1) b CY RY)
    (hL : ∀ (r s : Nat) (K : Nat → Int32) (c : Nat) (τ : List Bool), s + r = n → k_LI K c (b :: τ) → c ≤ s → τ.length ≤ tl → k_bsz K → ∃ (f p : Nat) (K' : Nat → Int32) (c' : Nat), f ≤ 4 ∧ s ≤ p ∧ p ≤ n ∧ (f = 0 → c' + s ≤ c + p ∧ k_lw K K' ∧ k_LI K' c' (b :: τ)) ∧ (∀ M0 M d i, m ≤ d → i ≤ s → c_P B n L xs M0 s K M → ∃ M', CL d (nI 1) (nI i) M = ir_oI (k_1 f) M' ∧ c_Q B n L xs M0 f p K' M') ∧ (∀ M0 M d, m ≤ d → r_P B n L xs M0 dp s K M → ∃ M', RL d M = ir_oV M' ∧ r_Q B n L xs M0 dp f p K' M'))
    (hCF : ∀ M0 M d i f p, i ≤ 1000 → c_F B n L xs M0 f p M → CL d (nI 0) (nI i) M = ir_oI (nI 0) M)
    (hRF : ∀ M0 M d f p, m ≤ d → r_F B n L xs M0 f p M → RL d M = ir_oV M)
    (hCX : ∀ M d r M1, q_PI M → CY d M = ir_oI r M1 → CX (d + 1) M = CL d r (nI 0) M1)
    (hRX : ∀ M d M1, q_PI M → RY d M = ir_oV M1 → RX (d + 1) M = RL d M1) : w_W B n L xs (m + 1) dp tl b CX RX := by
  intro s K c τ hs hLI hc ht hb
  obtain ⟨f1, p1, K1, c1, y1, y2, y3, y4, y5, y6⟩ := hY s K c τ hs hLI hc (by omega) hb
  by_cases qf : f1 = 0
  · obtain ⟨w1, w2, w3, w4⟩ := y4 qf
    obtain ⟨f, p, K', c', v1, v2, v3, v4, v5, v6⟩ := hL (n - p1) p1 K1 c1 τ (by omega) w4 (by omega) ht (k_bsz_w hb (k_lw_7 w3))
    refine ⟨f, p, K', c', v1, by omega, v3, fun z => ?_, fun M0 M d hd hP => ?_, fun M0 M d hd hP => ?_⟩
    · obtain ⟨v7, v8, v9⟩ := v4 z
      exact ⟨by omega, by omega, k_lw_tr w3 v8, v9⟩
    · obtain ⟨e, rfl⟩ : ∃ e, d = e + 1 := ⟨d - 1, by omega⟩
      obtain ⟨M1, e1, Q1⟩ := y5 M0 M e (by omega) hP
      obtain ⟨M', e', Q'⟩ := v5 M0 M1 e 0 (by omega) (Nat.zero_le _) (Q1.1 qf)
      refine ⟨M', ?_, Q'⟩
      rw [hCX M e _ M1 hP.1.1.1 e1, qf]
      exact e'
    · obtain ⟨e, rfl⟩ : ∃ e, d = e + 1 := ⟨d - 1, by omega⟩
      obtain ⟨M1, e1, Q1⟩ := y6 M0 M e (by omega) hP
      obtain ⟨M', e', Q'⟩ := v6 M0 M1 e (by omega) (Q1.1 qf)
      exact ⟨M', (hRX M e M1 hP.1.1.1 e1).trans e', Q'⟩
  · refine ⟨f1, p1, K1, c1, y1, y2, y3, fun z => absurd z qf, fun M0 M d hd hP => ?_, fun M0 M d hd hP => ?_⟩
    · obtain ⟨e, rfl⟩ : ∃ e, d = e + 1 := ⟨d - 1, by omega⟩
      obtain ⟨M1, e1, Q1⟩ := y5 M0 M e (by omega) hP
      refine ⟨M1, ?_, Q1⟩
      rw [hCX M e _ M1 hP.1.1.1 e1, show k_1 f1 = nI 0 from if_neg qf]
      exact hCF M0 M1 e 0 f1 p1 (by decide) (Q1.2 qf)
    · obtain ⟨e, rfl⟩ : ∃ e, d = e + 1 := ⟨d - 1, by omega⟩
      obtain ⟨M1, e1, Q1⟩ := y6 M0 M e (by omega) hP
      exact ⟨M1, (hRX M e M1 hP.1.1.1 e1).trans (hRF M0 M1 e f1 p1 (by omega) (Q1.2 qf)), Q1⟩
end WL
