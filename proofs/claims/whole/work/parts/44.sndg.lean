section IRU2
variable {p : Program} {l : Launch} {e : Env} {R : Room} {s : State} {m : MethodId} {args : Array Value} {below : List Frame} {meth : Method} {c : Code} {c0 s0 : Nat}
variable {w : ir_Wd} {M : ir_M} {F : ir_F} {G : ir_G} {z : (Option Value ⊕ Nat) × ir_M} {pc y d n : Nat} {L : ir_L} {st : List Value} {x : List Nat}
theorem ir_c_inv (K : ir_cx w p l R s m args meth c y d) (hc : ir_nc z.2 ≤ c0 + R.cells) (hs : ir_ns z.2 ≤ s0 + R.slots) (hF : ∀ pc L st M', F pc L st M' = some z → ir_gr M' z.2 ∧ ir_Gd w p l e R s m args below meth c z c0 s0 pc L st M')
    (hG : ∀ y' as M' z', y' < 383 → y' ≠ ir_lawN → (ir_arg as).length ≤ ir_ml y' → G y' as M' = some z' → ir_gr M' z'.2 ∧ ∃ d', d = d' + 1 ∧ ir_Mt l w d' y' as M' z')
    {j op : Nat} (hd : decode (ir_co y) pc = .ok ((match op with | 0 => .invokevirtual j | 1 => .invokespecial j | _ => .invokestatic j), 3)) (hop : op = 0 ∨ op = 1 ∨ op = 2) (hn : n = pc + 3)
    (hok : ir_oki y j op x = true) (h : ir_inv F G (ir_hd y) pc n x L st M = some z) : ir_Gd w p l e R s m args below meth c z c0 s0 pc L st M := by
  have K' := K
  obtain ⟨hx, hb, hml, ho, hT, hE, hA, hlt, hlk, hnm, hret, htab, hfr, hlo, hy⟩ := K'
  have hcat : w.2.2.1.category = 1 := hE.2.2.2.2.2.2.2.2.2.2.2.2.2.2
  have hrr : ∀ r : List Value, (r.map ir_cat).sum ≤ 8 → ((r.map (ir_tr w)).map fun v => v.category).sum ≤ 8 := fun r hr => by rw [ir_sum_cat hcat]; exact hr
  have bnd : ∀ {pc L st}, F pc L st M = some z → ir_nc M - c0 ≤ R.cells ∧ ir_ns M - s0 ≤ R.slots := by
    intro pc L st h
    have := (hF _ _ _ _ h).1
    exact ⟨by have := this.1; omega, by have := this.2.1; omega⟩
  match x, hok, h with
  | [], hok, h => exact nomatch h
  | 0 :: y' :: k :: t :: rc :: xs, hok, h =>
    have hq : 0 = op := ir_beq (ir_and hok).1
    subst hq
    exact ir_c_call (kind := 0) (j := j) K hc hs hF hG hd h (Or.inl rfl) hn hok
  | 1 :: y' :: k :: t :: rc :: xs, hok, h =>
    have hq : 1 = op := ir_beq (ir_and hok).1
    subst hq
    exact ir_c_call (kind := 1) (j := j) K hc hs hF hG hd h (Or.inr (Or.inl rfl)) hn hok
  | 2 :: y' :: k :: t :: rc :: xs, hok, h =>
    have hq : 2 = op := ir_beq (ir_and hok).1
    subst hq
    exact ir_c_call (kind := 2) (j := j) K hc hs hF hG hd h (Or.inr (Or.inr rfl)) hn hok
  | 0 :: [], _, h => exact nomatch h
  | 0 :: _ :: [], _, h => exact nomatch h
  | 0 :: _ :: _ :: [], _, h => exact nomatch h
  | 0 :: _ :: _ :: _ :: [], _, h => exact nomatch h
  | 1 :: [], _, h => exact nomatch h
  | 1 :: _ :: [], _, h => exact nomatch h
  | 1 :: _ :: _ :: [], _, h => exact nomatch h
  | 1 :: _ :: _ :: _ :: [], _, h => exact nomatch h
  | 2 :: [], _, h => exact nomatch h
  | 2 :: _ :: [], _, h => exact nomatch h
  | 2 :: _ :: _ :: [], _, h => exact nomatch h
  | 2 :: _ :: _ :: _ :: [], _, h => exact nomatch h
  | (k + 10) :: y' :: _ :: t :: rc :: xs, hok, h =>
    have hq : k + 10 = op := ir_beq (ir_and hok).1
    omega
  | (k + 10) :: [], _, h => exact nomatch h
  | (k + 10) :: _ :: [], _, h => exact nomatch h
  | (k + 10) :: _ :: _ :: [], _, h => exact nomatch h
  | (k + 10) :: _ :: _ :: _ :: [], _, h => exact nomatch h
  | 3 :: xs, hok, h =>
    obtain ⟨g1, g2⟩ := ir_and hok
    have hq := ir_beq g1
    subst hq; subst hn
    have hyP := ir_y_ok _ (ir_i2L_inv g2)
    simp only [ir_inv] at h
    split at h
    · obtain ⟨hr, h⟩ := ir_rm_inv h
      obtain ⟨hg, h⟩ := ir_ck_inv h
      intro H locs hR hS hat ls hl hnn
      refine ir_s_copy hx hb (hl.1.trans hnn).symm ho hT hE hR hS hyP hg (by omega) (by have := hrr _ hr; omega) hd (fun H1 locs1 hR1 hS1 => (hF _ _ _ _ h).2 H1 locs1 hR1 hS1 hat ls hl hnn)
    · exact nomatch h
  | 4 :: xs, hok, h =>
    obtain ⟨g1, g2⟩ := ir_and hok
    have hq := ir_beq g1
    subst hq; subst hn
    have hzP := ir_z_ok _ (ir_i2L_inv g2)
    obtain ⟨a, r, rfl, h⟩ := ir_r1_inv h
    obtain ⟨hr, h⟩ := ir_rm_inv h
    intro H locs hR hS hat ls hl hnn
    refine W.objInit hx hb ho (hT _ hzP) (hT _ ir_obj.1) (hT _ ir_obj.2) rfl (hl.1.trans hnn) (a := ir_ro w a) (rest := r.map (ir_tr w)) rfl hd (by omega) ?_ ((hF _ _ _ _ h).2 H locs hR hS hat ls hl hnn)
    have := hrr _ hr
    show 2 * 0 + _ + 12 ≤ R.locals
    omega
  | 5 :: xs, hok, h =>
    obtain ⟨g1, g2⟩ := ir_and hok
    have hq := ir_beq g1
    subst hq; subst hn
    have huP := ir_u_ok _ (ir_i3L_inv g2)
    obtain ⟨a, b, r, rfl, h⟩ := ir_i2_inv h
    obtain ⟨hr, h⟩ := ir_rm_inv h
    obtain ⟨bc, bs⟩ := bnd h
    intro H locs hR hS hat ls hl hnn
    exact va_mmax hx hb (hl.1.trans hnn).symm ho (hT _ huP) (hT _ ir_mt_5.1) (hT _ ir_mt_5.2.1) (hT _ ir_mt_5.2.2) (by omega) (by have := hrr _ hr; omega) bc bs hd ((hF _ _ _ _ h).2 H locs hR hS hat ls hl hnn)
  | 6 :: xs, hok, h =>
    obtain ⟨g1, g2⟩ := ir_and hok
    have hq := ir_beq g1
    subst hq; subst hn
    have huP := ir_u_ok _ (ir_i3L_inv g2)
    obtain ⟨a, b, r, rfl, h⟩ := ir_i2_inv h
    obtain ⟨hr, h⟩ := ir_rm_inv h
    obtain ⟨bc, bs⟩ := bnd h
    intro H locs hR hS hat ls hl hnn
    exact va_mmin hx hb (hl.1.trans hnn).symm ho (hT _ huP) (hT _ ir_mt_6.1) (hT _ ir_mt_6.2.1) (hT _ ir_mt_6.2.2) (by omega) (by have := hrr _ hr; omega) bc bs hd ((hF _ _ _ _ h).2 H locs hR hS hat ls hl hnn)
  | 7 :: xs, hok, h =>
    obtain ⟨g1, g2⟩ := ir_and hok
    have hq := ir_beq g1
    subst hq; subst hn
    have huP := ir_u_ok _ (ir_i3L_inv g2)
    obtain ⟨a, r, rfl, h⟩ := ir_i1_inv h
    obtain ⟨hr, h⟩ := ir_rm_inv h
    obtain ⟨bc, bs⟩ := bnd h
    intro H locs hR hS hat ls hl hnn
    exact va_mabs hx hb (hl.1.trans hnn).symm ho (hT _ huP) (hT _ ir_mt_7.1) (hT _ ir_mt_7.2.1) (hT _ ir_mt_7.2.2) (by omega) (by have := hrr _ hr; omega) bc bs hd ((hF _ _ _ _ h).2 H locs hR hS hat ls hl hnn)
  | 8 :: xs, hok, h =>
    obtain ⟨g1, g2⟩ := ir_and hok
    have hq := ir_beq g1
    subst hq; subst hn
    have huP := ir_u_ok _ (ir_i3L_inv g2)
    obtain ⟨a, b, r, rfl, h⟩ := ir_l2_inv h
    obtain ⟨hr, h⟩ := ir_rm_inv h
    obtain ⟨bc, bs⟩ := bnd h
    intro H locs hR hS hat ls hl hnn
    exact va_mmax_long hx hb (hl.1.trans hnn).symm ho (hT _ huP) (hT _ ir_mt_8.1) (hT _ ir_mt_8.2.1) (hT _ ir_mt_8.2.2) (by omega) (by have := hrr _ hr; omega) bc bs hd ((hF _ _ _ _ h).2 H locs hR hS hat ls hl hnn)
  | 9 :: xs, hok, h =>
    obtain ⟨g1, g2⟩ := ir_and hok
    have hq := ir_beq g1
    subst hq; subst hn
    have huP := ir_u_ok _ (ir_i3L_inv g2)
    obtain ⟨a, b, r, rfl, h⟩ := ir_l2_inv h
    obtain ⟨hr, h⟩ := ir_rm_inv h
    obtain ⟨bc, bs⟩ := bnd h
    intro H locs hR hS hat ls hl hnn
    exact va_mmin_long hx hb (hl.1.trans hnn).symm ho (hT _ huP) (hT _ ir_mt_9.1) (hT _ ir_mt_9.2.1) (hT _ ir_mt_9.2.2) (by omega) (by have := hrr _ hr; omega) bc bs hd ((hF _ _ _ _ h).2 H locs hR hS hat ls hl hnn)
theorem ir_ot {v : Cond} (h : v ∈ ir_Tb) : vx_ot v = true := by
  have := (List.mem_filter.mp h).2
  simp [vx_ot, this]
theorem ir_xb0 (k : Nat) : decode (ir_xbs k) 0 = .ok (.aload_n 0, 1) ∧ decode (ir_xbs k) 1 = .ok (.aload_n 1, 1) ∧ decode (ir_xbs k) 2 = .ok (.invokespecial (ir_xix k), 3) ∧ decode (ir_xbs k) 5 = .ok (.return_, 1) := by
  by_cases h : k = 1
  · subst h
    exact ⟨by decide +kernel, by decide +kernel, by decide +kernel, by decide +kernel⟩
  · have e1 : ir_xbs k = Bundle.six := by
      unfold ir_xbs
      split
      · exact absurd rfl h
      · rfl
    have e2 : ir_xix k = 7 := by
      unfold ir_xix
      split
      · exact absurd rfl h
      · rfl
    rw [e1, e2]
    exact ⟨Bundle.six_0, Bundle.six_1, Bundle.six_2, Bundle.six_5⟩
theorem ir_rep_th {H H1 : Heap} (hR : ir_rep w M H) (h1 : H.size ≤ H1.size) (h2 : ∀ q : Nat, q < H.size → H1[q]? = H[q]?) : ir_rep w (ir_th M) H1 := by
  obtain ⟨r1, r2, r3, r4, r5, r6⟩ := hR
  refine ⟨fun k q hq => ?_, r2, r3, Nat.le_trans r4 h1, r5, r6⟩
  have hq' : (ir_wl w M (ir_nx M - 1))[k]? = some q := hq
  exact (r1 k q hq').kept (h2 q.1 (r1 k q hq').lt)
theorem ir_c_throw (K : ir_cx w p l R s m args meth c y d) (hc : ir_nc z.2 ≤ c0 + R.cells) (hs : ir_ns z.2 ≤ s0 + R.slots) {j k : Nat} (hd : decode (ir_co y) pc = .ok (.new j, 3)) (hok : ir_okx y pc j k = true) (h : ir_rm st (some (.inr k, ir_th M)) = some z) : ir_Gd w p l e R s m args below meth c z c0 s0 pc L st M := by
  obtain ⟨hx, hb, hml, ho, hT, hE, hA, hlt, hlk, hnm, hret, htab, hfr, hlo, hy⟩ := K
  have hcat : w.2.2.1.category = 1 := hE.2.2.2.2.2.2.2.2.2.2.2.2.2.2
  obtain ⟨hrm, h⟩ := ir_rm_inv h
  have h : z = (.inr k, ir_th M) := (Option.some.inj h).symm
  subst h
  obtain ⟨o1, o2⟩ := ir_and hok
  obtain ⟨o2, o3⟩ := ir_and o2
  have d3 := of_decide_eq_true o2
  obtain ⟨is, ln, hsok, hln, hxk⟩ : ∃ is ln, ir_sok (ir_o y) is = true ∧ ((decode (ir_co y) (pc + 4) = .ok (.ldc is, 2) ∧ ln = 2) ∨ (decode (ir_co y) (pc + 4) = .ok (.ldc_w is, 3) ∧ ln = 3)) ∧ ir_xck y j k (pc + 4 + ln) = true := by
    split at o3
    · rename_i is hq
      exact ⟨is, 2, (ir_and o3).1, Or.inl ⟨hq, rfl⟩, (ir_and o3).2⟩
    · rename_i is hq
      exact ⟨is, 3, (ir_and o3).1, Or.inr ⟨hq, rfl⟩, (ir_and o3).2⟩
    · exact nomatch o3
  obtain ⟨ic, d6, hxl, d9⟩ : ∃ ic, decode (ir_co y) (pc + 4 + ln) = .ok (.invokespecial ic, 3) ∧ ir_i4L (ir_o y) j k ic ir_xL = true ∧ decode (ir_co y) (pc + 4 + ln + 3) = .ok (.athrow, 1) := by
    unfold ir_xck at hxk
    split at hxk
    · rename_i ic hq
      exact ⟨ic, hq, (ir_and hxk).1, of_decide_eq_true (ir_and hxk).2⟩
    · exact nomatch hxk
  have hmem := ir_i4L_inv hxl
  obtain ⟨x1, x2, x3, x4, x5⟩ := ir_x_ok _ hmem
  obtain ⟨k1, k4⟩ := ir_xL_le _ hmem
  dsimp only at x1 x2 x3 x4 x5 k1 k4
  obtain ⟨si, hsi, hsq⟩ := List.any_eq_true.mp hsok
  have hsi := List.mem_range.mp hsi
  obtain ⟨q1, q2⟩ := ir_and hsq
  have hstr := (hE.2.1 si hsi).2
  rw [ir_beq q1, ir_beq q2] at hstr
  obtain ⟨b0, b1, b2, b5⟩ := ir_xb0 k
  intro H locs hR hS hat ls hl hnn
  obtain ⟨at1, at2, at3⟩ := id hat
  have hcM : ir_nc (ir_th M) = ir_nc M + 1 := rfl
  have hsM : ir_ns (ir_th M) = ir_ns M + 6 := rfl
  dsimp only at hc hs
  rw [hcM] at hc
  rw [hsM] at hs
  have hhe : ir_hh y = [] := List.isEmpty_iff.mp o1
  refine ir_throwS (own := ir_on (ir_o y)) (cls := ir_exn k) (up := "java/lang/RuntimeException") (ix := ir_xix k) (bs := ir_xbs k) (n := ln) (A := ir_A w) hx hb hlt ho x5 (by decide +kernel) b0 b1 b2 b5 (hT _ x1) (hT _ x2) hstr (fun v hv => ?_) (ir_ot x1) (ir_ot x2) x4 hE.2.2.2.2.2.2.2.1 hE.2.2.2.2.2.2.2.2.1 hS (hl.1.trans hnn) hd d3 hln d6 d9 (fun x9 hx9 => ?_) (by omega) ?_ (by omega) (by omega) hlk
    (fun t ht1 ht2 ht3 => ⟨⟨k, rfl, k1, k4, rfl⟩, ir_rep_th hR ht2 ht3, ⟨Nat.le_trans hS.1 ht2, fun q hq hnq => (ht3 q (Nat.lt_of_lt_of_le hq hS.1)).trans (hS.2.1 q hq hnq)⟩⟩) hS.2.2 (by rw [hcM]; omega) (by rw [hsM]; omega)
  · rcases x3 v hv with h9 | h9
    · exact hT v h9
    · exact va_Nw.use (ir_nk_on (List.mem_filter.mp h9).2) (hE.2.2.2.2.2.2.2.2.2.1 v h9)
  · rw [htab, hhe] at hx9
    exact absurd hx9 List.not_mem_nil
  · rw [ir_sum_cat hcat]
    omega
theorem ir_c_newo (K : ir_cx w p l R s m args meth c y d) (hc : ir_nc z.2 ≤ c0 + R.cells) (hs : ir_ns z.2 ≤ s0 + R.slots) (hF : ∀ pc L st M', F pc L st M' = some z → ir_gr M' z.2 ∧ ir_Gd w p l e R s m args below meth c z c0 s0 pc L st M')
    {j cc k : Nat} (hd : decode (ir_co y) pc = .ok (.new j, 3)) (hn : n = pc + 3) (hok : ir_i4L (ir_o y) j cc k ir_nL = true) (h : ir_ck (ir_gn M cc) (F n L (.ref (ir_nx M) :: st) (ir_al M k)) = some z) : ir_Gd w p l e R s m args below meth c z c0 s0 pc L st M := by
  obtain ⟨hx, hb, hml, ho, hT, hE, hA, hlt, hlk, hnm, hret, htab, hfr, hlo, hy⟩ := K
  subst hn
  obtain ⟨hg, h⟩ := ir_ck_inv h
  have hN := ir_n_ok _ (ir_i4L_inv hok)
  have hcc : cc < 50 := by
    obtain ⟨q, q1, -⟩ := id hN
    have := (List.getElem?_eq_some_iff.mp q1).1
    have h13 : vwCl.length = 13 := rfl
    dsimp only at this
    omega
  have hgr := (hF _ _ _ _ h).1
  have g1 : ir_nc M + 1 ≤ ir_nc z.2 := hgr.1
  have g2 : ir_ns M + k ≤ ir_ns z.2 := hgr.2.1
  have hex : ir_ex M = true := (ir_and hg).2
  intro H locs hR hS hat ls hl hnn
  obtain ⟨at1, at2, at3⟩ := id hat
  have := at3 hex
  refine ir_s_new hx hb ho hT hE hR hS hA hN hcc hg (by omega) (by omega) (by omega) hd (fun H1 hR1 hS1 => ?_)
  have h9 := (hF _ _ _ _ h).2 H1 locs hR1 hS1 (hat.gr (ir_gr.al M k)) ls hl hnn
  rw [show ir_nc (ir_al M k) - c0 = ir_nc M - c0 + 1 by show ir_nc M + 1 - c0 = _; omega, show ir_ns (ir_al M k) - s0 = ir_ns M - s0 + k by show ir_ns M + k - s0 = _; omega] at h9
  exact h9
theorem ir_c_newa (K : ir_cx w p l R s m args meth c y d) (hc : ir_nc z.2 ≤ c0 + R.cells) (hs : ir_ns z.2 ≤ s0 + R.slots) (hF : ∀ pc L st M', F pc L st M' = some z → ir_gr M' z.2 ∧ ir_Gd w p l e R s m args below meth c z c0 s0 pc L st M')
    {at0 : ArrayType} (hok : (ir_d y pc (.newarray at0) 2 n && (ir_hd1 x (ir_atk at0) && Nat.ble 100 (ir_atk at0))) = true) (h : ir_na F pc n x L st M = some z) : ir_Gd w p l e R s m args below meth c z c0 s0 pc L st M := by
  obtain ⟨hx, hb, hml, ho, hT, hE, hA, hlt, hlk, hnm, hret, htab, hfr, hlo, hy⟩ := K
  obtain ⟨o1, o2⟩ := ir_and hok
  obtain ⟨o2, o3⟩ := ir_and o2
  obtain ⟨hd, rfl⟩ := ir_d_inv o1
  cases x with
  | nil => exact nomatch h
  | cons cc xs =>
    obtain ⟨v, r, rfl, ha⟩ := ir_i1_inv (show ir_i1 st _ = some z from h)
    obtain ⟨hg, h7⟩ := ir_ck_inv ha
    have e1 := ir_hd1_inv o2
    have o3 := Nat.le_of_ble_eq_true o3
    have hle : ir_atk at0 ≤ 104 := by cases at0 <;> decide
    obtain ⟨k, hk⟩ : ∃ k, cc = 100 + k := ⟨cc - 100, by omega⟩
    subst hk
    have hgr := (hF _ _ _ _ h7).1
    have g1 : ir_nc M + 1 ≤ ir_nc z.2 := hgr.1
    have g2 : ir_ns M + v.toNatClampNeg ≤ ir_ns z.2 := hgr.2.1
    have hex : ir_ex M = true := (ir_gna_inv hg).2.2.1
    intro H locs hR hS hat ls hl hnn
    obtain ⟨at1, at2, at3⟩ := id hat
    have := at3 hex
    refine ir_s_newa hx hb hT hE hR hS hA (at0 := at0) (k := k) e1 (by omega) hg (by omega) (by omega) (by omega) hd (fun H1 hR1 hS1 => ?_)
    have h9 := (hF _ _ _ _ h7).2 H1 locs hR1 hS1 (hat.gr (ir_gr.al M _)) ls hl hnn
    rw [show ir_nc (ir_al M v.toNatClampNeg) - c0 = ir_nc M - c0 + 1 by show ir_nc M + 1 - c0 = _; omega, show ir_ns (ir_al M v.toNatClampNeg) - s0 = ir_ns M - s0 + v.toNatClampNeg by show ir_ns M + v.toNatClampNeg - s0 = _; omega] at h9
    exact h9
theorem ir_aL_le : ∀ e ∈ ir_aL, e.2.2 = 105 ∨ e.2.2 = 106 ∨ e.2.2 = 107 := by decide +kernel
theorem ir_c_newq (K : ir_cx w p l R s m args meth c y d) (hc : ir_nc z.2 ≤ c0 + R.cells) (hs : ir_ns z.2 ≤ s0 + R.slots) (hF : ∀ pc L st M', F pc L st M' = some z → ir_gr M' z.2 ∧ ir_Gd w p l e R s m args below meth c z c0 s0 pc L st M')
    {j : Nat} (hok : (ir_d y pc (.anewarray j) 3 n && (match x with | cc :: _ => ir_i3L (ir_o y) j cc ir_aL | [] => true)) = true) (h : ir_na F pc n x L st M = some z) : ir_Gd w p l e R s m args below meth c z c0 s0 pc L st M := by
  obtain ⟨hx, hb, hml, ho, hT, hE, hA, hlt, hlk, hnm, hret, htab, hfr, hlo, hy⟩ := K
  obtain ⟨o1, o2⟩ := ir_and hok
  obtain ⟨hd, rfl⟩ := ir_d_inv o1
  cases x with
  | nil => exact nomatch h
  | cons cc xs =>
    obtain ⟨v, r, rfl, h⟩ := ir_i1_inv (show ir_i1 st _ = some z from h)
    obtain ⟨hg, h⟩ := ir_ck_inv h
    have hm := ir_i3L_inv (show ir_i3L (ir_o y) j cc ir_aL = true from o2)
    have hgr := (hF _ _ _ _ h).1
    have g1 : ir_nc M + 1 ≤ ir_nc z.2 := hgr.1
    have g2 : ir_ns M + v.toNatClampNeg ≤ ir_ns z.2 := hgr.2.1
    have hex : ir_ex M = true := (ir_gna_inv hg).2.2.1
    intro H locs hR hS hat ls hl hnn
    obtain ⟨at1, at2, at3⟩ := id hat
    have := at3 hex
    refine ir_s_newq hx hb ho hT hE hR hS hA (ir_a_ok _ hm) (ir_aL_le _ hm) hg (by omega) (by omega) (by omega) hd (fun H1 hR1 hS1 => ?_)
    have h9 := (hF _ _ _ _ h).2 H1 locs hR1 hS1 (hat.gr (ir_gr.al M _)) ls hl hnn
    rw [show ir_nc (ir_al M v.toNatClampNeg) - c0 = ir_nc M - c0 + 1 by show ir_nc M + 1 - c0 = _; omega, show ir_ns (ir_al M v.toNatClampNeg) - s0 = ir_ns M - s0 + v.toNatClampNeg by show ir_ns M + v.toNatClampNeg - s0 = _; omega] at h9
    exact h9
theorem ir_FOK_lt {o i cc k t : Nat} (h : ir_FOK o i cc k t) : cc < 50 := by
  obtain ⟨q, ty, q1, -⟩ := h
  have := (List.getElem?_eq_some_iff.mp q1).1
  have h13 : vwCl.length = 13 := rfl
  omega
theorem ir_c_getf (K : ir_cx w p l R s m args meth c y d) (hF : ∀ pc L st M', F pc L st M' = some z → ir_gr M' z.2 ∧ ir_Gd w p l e R s m args below meth c z c0 s0 pc L st M')
    {j : Nat} (hok : (ir_d y pc (.getfield j) 3 n && ir_okf y j x) = true) (h : ir_gf F pc n x L st M = some z) : ir_Gd w p l e R s m args below meth c z c0 s0 pc L st M := by
  obtain ⟨hx, hb, hml, ho, hT, hE, hA, hlt, hlk, hnm, hret, htab, hfr, hlo, hy⟩ := K
  obtain ⟨o1, o2⟩ := ir_and hok
  obtain ⟨hd, rfl⟩ := ir_d_inv o1
  unfold ir_gf at h
  split at h
  · rename_i cc k t xs
    obtain ⟨a, r, rfl, h⟩ := ir_r1_inv h
    intro H locs hR hS hat ls hl hnn
    have hV := fun st h => (hF (pc + 3) L st M h).2 H locs hR hS hat ls hl hnn
    cases hcc : Nat.beq cc 50 with
    | true =>
      have o9 : (ir_i3L (ir_o y) j k ir_hL && ((Nat.beq k 0 && Nat.beq t 2) || (Nat.beq k 1 && Nat.beq t 0))) = true := by simpa only [ir_okf, hcc] using o2
      have hcc := ir_beq hcc
      subst hcc
      obtain ⟨o2, o3⟩ := ir_and o9
      have hh := ir_h_ok _ (ir_i3L_inv o2)
      rcases ir_or o3 with o3 | o3
      · obtain ⟨e1, e2⟩ := ir_and o3
        have e1 := ir_beq e1
        have e2 := ir_beq e2
        subst e1; subst e2
        obtain ⟨hg, h⟩ := ir_ck_inv h
        rcases hh with ⟨-, hh⟩ | ⟨hh, -⟩
        · exact ir_s_gets0 hx hb ho hT hE hR hS hh (ir_and hg).1 hd (hV _ h)
        · exact nomatch hh
      · obtain ⟨e1, e2⟩ := ir_and o3
        have e1 := ir_beq e1
        have e2 := ir_beq e2
        subst e1; subst e2
        obtain ⟨hg, h⟩ := ir_ck_inv h
        rcases hh with ⟨hh, -⟩ | ⟨-, hh⟩
        · exact nomatch hh
        · exact ir_s_gets1 hx hb ho hT hE hR hS hh hg hd (hV _ h)
    | false =>
      have hf : ir_FOK (ir_o y) j cc k t := ir_elF_inv (by simpa only [ir_okf, hcc] using o2)
      have h50 := ir_FOK_lt hf
      split at h
      · obtain ⟨hg, h⟩ := ir_ck_inv h
        exact ir_s_getv hx hb ho hT hE hR hf hg h50 hd (hV _ h)
      · obtain ⟨hg, h⟩ := ir_ck_inv h
        obtain ⟨hg, h0⟩ := ir_and hg
        refine ir_s_getv hx hb ho hT hE hR hf hg h50 hd ?_
        rw [show ir_fv w M a k 2 = .ref (ir_ro w (ir_P M a k)) from ir_op_pos (ir_blt h0)]
        exact hV _ h
      · rename_i t1 t2
        obtain ⟨hg, h⟩ := ir_ck_inv h
        refine ir_s_getv hx hb ho hT hE hR hf hg h50 hd ?_
        have e3 : ir_fv w M a k t = .int (ir_I M a k) := by
          unfold ir_fv
          split
          · exact absurd rfl t1
          · exact absurd rfl t2
          · rfl
        rw [e3]
        exact hV _ h
  · exact nomatch h
theorem ir_c_putf (K : ir_cx w p l R s m args meth c y d) (hF : ∀ pc L st M', F pc L st M' = some z → ir_gr M' z.2 ∧ ir_Gd w p l e R s m args below meth c z c0 s0 pc L st M')
    {j : Nat} (hok : (ir_d y pc (.putfield j) 3 n && ir_okp y j x) = true) (h : ir_pf F pc n x L st M = some z) : ir_Gd w p l e R s m args below meth c z c0 s0 pc L st M := by
  obtain ⟨hx, hb, hml, ho, hT, hE, hA, hlt, hlk, hnm, hret, htab, hfr, hlo, hy⟩ := K
  obtain ⟨o1, o2⟩ := ir_and hok
  obtain ⟨hd, rfl⟩ := ir_d_inv o1
  unfold ir_pf at h
  split at h
  · rename_i cc k t xs
    obtain ⟨o2, o3⟩ := ir_and o2
    have hf := ir_elF_inv o2
    have h50 := ir_FOK_lt hf
    have hfin : ir_fin cc k = false ∨ ((ir_nm y).name = "<init>" ∧ cc = ir_o y) := by
      rcases ir_or o3 with o3 | o3
      · exact Or.inl (by simpa using o3)
      · exact Or.inr ⟨of_decide_eq_true (ir_and o3).1, ir_beq (ir_and o3).2⟩
    intro H locs hR hS hat ls hl hnn
    split at h
    · split at h
      · rename_i v a r
        obtain ⟨hg, h⟩ := ir_ck_inv h
        refine ir_s_put (M' := ir_sJ M a k v) (v := .long v) hx hb ho hT hE hR hS hnm hf h50 hfin hg rfl (fun b hb => ⟨rfl, if_neg hb, rfl⟩) (fun i hi => ⟨rfl, ?_, rfl⟩) ?_ (fun ty hty => ?_) hd (fun H1 locs1 hR1 hS1 => (hF _ _ _ _ h).2 H1 locs1 hR1 hS1 hat ls hl hnn)
        · rw [ir_sJ_s]
          exact if_neg hi
        · show Value.long ((ir_sJ M a k v).2.1 a k) = _
          rw [ir_sJ_s]
          exact congrArg Value.long (if_pos rfl)
        · cases ty <;> first | exact ⟨rfl, rfl⟩ | exact nomatch hty
      · exact nomatch h
    · split at h
      · rename_i v a r
        obtain ⟨hg, h⟩ := ir_ck_inv h
        obtain ⟨hg, g4⟩ := ir_and hg
        obtain ⟨hg, g3⟩ := ir_and hg
        refine ir_s_put (M' := ir_sP M a k v) (v := .ref (ir_ro w v)) hx hb ho hT hE hR hS hnm hf h50 hfin hg rfl (fun b hb => ⟨rfl, rfl, if_neg hb⟩) (fun i hi => ⟨rfl, rfl, ?_⟩) ?_ (fun ty hty => ?_) hd (fun H1 locs1 hR1 hS1 => (hF _ _ _ _ h).2 H1 locs1 hR1 hS1 hat ls hl hnn)
        · rw [ir_sP_s]
          exact if_neg hi
        · show va_rf (ir_op w ((ir_sP M a k v).2.2.1 a k)) = _
          rw [ir_sP_s, show (fun j => if j = k then v else M.2.2.1 a j) k = v from if_pos rfl]
          exact ir_op_pos (ir_blt g3)
        · cases ty <;> first | exact ⟨rfl, rfl⟩ | exact nomatch hty
      · exact nomatch h
    · split at h
      · rename_i v a r
        obtain ⟨hg, h⟩ := ir_ck_inv h
        obtain ⟨hg, g3⟩ := ir_and hg
        refine ir_s_put (M' := ir_sI M a k v) (v := .int v) hx hb ho hT hE hR hS hnm hf h50 hfin hg rfl (fun b hb => ⟨if_neg hb, rfl, rfl⟩) (fun i hi => ⟨?_, rfl, rfl⟩) ?_ (fun ty hty => ?_) hd (fun H1 locs1 hR1 hS1 => (hF _ _ _ _ h).2 H1 locs1 hR1 hS1 hat ls hl hnn)
        · rw [ir_sI_s]
          exact if_neg hi
        · show Value.int ((ir_sI M a k v).1 a k) = _
          rw [ir_sI_s]
          exact congrArg Value.int (if_pos rfl)
        · cases ty <;> first
            | (rcases ir_or g3 with g3 | g3
               · have := of_decide_eq_true g3
                 subst this
                 exact ⟨rfl, rfl⟩
               · have := of_decide_eq_true g3
                 subst this
                 exact ⟨rfl, rfl⟩)
            | exact nomatch hty
      · exact nomatch h
    · rename_i t1 t2 t3
      split at h
      · rename_i v a r
        obtain ⟨hg, h⟩ := ir_ck_inv h
        have e3 : ir_fv w (ir_sI M a k v) a k t = .int v := by
          unfold ir_fv
          split
          · exact absurd rfl t1
          · exact absurd rfl t2
          · show Value.int ((ir_sI M a k v).1 a k) = _
            rw [ir_sI_s]
            exact congrArg Value.int (if_pos rfl)
        refine ir_s_put (M' := ir_sI M a k v) (v := .int v) hx hb ho hT hE hR hS hnm hf h50 hfin hg rfl (fun b hb => ⟨if_neg hb, rfl, rfl⟩) (fun i hi => ⟨?_, rfl, rfl⟩) e3 (fun ty hty => ?_) hd (fun H1 locs1 hR1 hS1 => (hF _ _ _ _ h).2 H1 locs1 hR1 hS1 hat ls hl hnn)
        · rw [ir_sI_s]
          exact if_neg hi
        · have ht0 : t ≠ 9 := by
            obtain ⟨q, ty', f1, f2, -, f4, -⟩ := id hf
            obtain ⟨-, ⟨ty0, -, c5, c6⟩, -, c8⟩ := ir_cl_ok cc q f1
            have hk := c5 k f2
            have hk3 := c6 k f2
            have := Option.some.inj (f4.symm.trans hk)
            omega
          cases ty <;> first
            | exact ⟨rfl, rfl⟩
            | exact absurd hty.symm t1
            | exact absurd hty.symm t2
            | exact absurd hty.symm t3
            | exact absurd hty.symm ht0
      · exact nomatch h
  · exact nomatch h
/-! returns -/
theorem ir_okr_inv {k : Nat} {ret : Option FieldType} (h : ir_okr k ret = true) : (k = 0 ∧ ret = some .int) ∨ (k = 1 ∧ ret = some .boolean) ∨ (k = 2 ∧ ret = some .byte) ∨ (k = 3 ∧ ret = some .char) := by
  unfold ir_okr at h
  split at h
  · exact Or.inl ⟨rfl, rfl⟩
  · exact Or.inr (Or.inl ⟨rfl, rfl⟩)
  · exact Or.inr (Or.inr (Or.inl ⟨rfl, rfl⟩))
  · exact Or.inr (Or.inr (Or.inr ⟨rfl, rfl⟩))
  · exact nomatch h
theorem ir_c_iret (K : ir_cx w p l R s m args meth c y d) (hok : (ir_d y pc .ireturn 1 n && (match x with | cc :: _ => ir_okr cc (ir_mo y).2.2.2.2 | [] => true)) = true) (h : (match st with | [.int v] => ir_jm x fun c => ir_ck (ir_nar c v) (some (.inl (some (.int v)), M)) | _ => none) = some z) : ir_Gd w p l e R s m args below meth c z c0 s0 pc L st M := by
  obtain ⟨hx, hb, hml, ho, hT, hE, hA, hlt, hlk, hnm, hret, htab, hfr, hlo, hy⟩ := K
  obtain ⟨o1, o2⟩ := ir_and hok
  obtain ⟨hd, rfl⟩ := ir_d_inv o1
  split at h
  · rename_i v
    obtain ⟨cc, xs, rfl, h⟩ := ir_jm_inv h
    obtain ⟨hg, h⟩ := ir_ck_inv h
    have h : z = (.inl (some (.int v)), M) := (Option.some.inj h).symm
    subst h
    intro H locs hR hS hat ls hl hnn
    have key : ∀ ty, (ir_mo y).2.2.2.2 = some ty → narrow ty (.int v) = .int v → W p l e R s m args below meth c H locs (ir_nc M - c0) (ir_ns M - s0) (vx_MQ below (ir_Qc w (.inl (some (.int v))) M) (ir_XC w (.inl (some (.int v))) M) args s (ir_nc M - c0) (ir_ns M - s0) (ir_A w)) (F0 m pc ls [.int v]) :=
      fun ty h1 h2 => vx_ret (W.zret hx hb (hret.trans h1) h2 (fun t ht _ => ⟨⟨some (.int v), rfl, rfl⟩, by rw [ht]; exact hR, hS.F ht⟩) hS.2.2 hd hlk)
    replace o2 : ir_okr cc (ir_mo y).2.2.2.2 = true := o2
    rcases ir_okr_inv o2 with ⟨rfl, hq⟩ | ⟨rfl, hq⟩ | ⟨rfl, hq⟩ | ⟨rfl, hq⟩
    · exact key _ hq rfl
    · refine key _ hq ?_
      rcases ir_or (show ir_isB v = true from hg) with g | g
      · have := of_decide_eq_true g
        subst this
        rfl
      · have := of_decide_eq_true g
        subst this
        rfl
    · exact key _ hq (congrArg Value.int (of_decide_eq_true (show decide (v.toInt8.toInt32 = v) = true from hg)))
    · exact key _ hq (congrArg Value.int (of_decide_eq_true (show decide (v.toUInt32.toUInt16.toUInt32.toInt32 = v) = true from hg)))
  · exact nomatch h
theorem ir_c_lret (K : ir_cx w p l R s m args meth c y d) (hok : (ir_d y pc .lreturn 1 n && decide ((ir_mo y).2.2.2.2 = some .long)) = true) (h : (match st with | [.long v] => some (.inl (some (.long v)), M) | _ => none) = some z) : ir_Gd w p l e R s m args below meth c z c0 s0 pc L st M := by
  obtain ⟨hx, hb, hml, ho, hT, hE, hA, hlt, hlk, hnm, hret, htab, hfr, hlo, hy⟩ := K
  obtain ⟨o1, o2⟩ := ir_and hok
  obtain ⟨hd, rfl⟩ := ir_d_inv o1
  split at h
  · rename_i v
    have h : z = (.inl (some (.long v)), M) := (Option.some.inj h).symm
    subst h
    intro H locs hR hS hat ls hl hnn
    exact vx_ret (W.lret hx hb (hret.trans (of_decide_eq_true o2)) (fun t ht _ => ⟨⟨some (.long v), rfl, rfl⟩, by rw [ht]; exact hR, hS.F ht⟩) hS.2.2 hd hlk)
  · exact nomatch h
theorem ir_c_aret (K : ir_cx w p l R s m args meth c y d) (hok : (ir_d y pc .areturn 1 n && Nat.beq (ir_rtc y) 3) = true) (h : (match st with | [.ref v] => some (.inl (some (.ref v)), M) | _ => none) = some z) : ir_Gd w p l e R s m args below meth c z c0 s0 pc L st M := by
  obtain ⟨hx, hb, hml, ho, hT, hE, hA, hlt, hlk, hnm, hret, htab, hfr, hlo, hy⟩ := K
  obtain ⟨o1, o2⟩ := ir_and hok
  obtain ⟨hd, rfl⟩ := ir_d_inv o1
  have o2 := ir_beq o2
  split at h
  · rename_i v
    have h : z = (.inl (some (.ref v)), M) := (Option.some.inj h).symm
    subst h
    intro H locs hR hS hat ls hl hnn
    have key : ∀ ty, (ir_mo y).2.2.2.2 = some ty → ((∃ n, ty = .object n) ∨ ∃ t, ty = .array t) → W p l e R s m args below meth c H locs (ir_nc M - c0) (ir_ns M - s0) (vx_MQ below (ir_Qc w (.inl (some (.ref v))) M) (ir_XC w (.inl (some (.ref v))) M) args s (ir_nc M - c0) (ir_ns M - s0) (ir_A w)) (F0 m pc ls [.ref (ir_ro w v)]) :=
      fun ty h1 h2 => vx_ret (W.aret hx hb (hret.trans h1) h2 (Or.inr ⟨_, rfl⟩) (fun t ht _ => ⟨⟨some (.ref v), rfl, rfl⟩, by rw [ht]; exact hR, hS.F ht⟩) hS.2.2 hd hlk)
    unfold ir_rtc at o2
    split at o2
    · exact nomatch o2
    · exact nomatch o2
    · rename_i n9 hq
      exact key _ hq (Or.inl ⟨_, rfl⟩)
    · rename_i n9 hq
      exact key _ hq (Or.inr ⟨_, rfl⟩)
    · exact nomatch o2
  · exact nomatch h
theorem ir_c_vret (K : ir_cx w p l R s m args meth c y d) (hok : (ir_d y pc .return_ 1 n && (ir_mo y).2.2.2.2.isNone) = true) (h : (match st with | [] => some (.inl none, M) | _ => none) = some z) : ir_Gd w p l e R s m args below meth c z c0 s0 pc L st M := by
  obtain ⟨hx, hb, hml, ho, hT, hE, hA, hlt, hlk, hnm, hret, htab, hfr, hlo, hy⟩ := K
  obtain ⟨o1, o2⟩ := ir_and hok
  obtain ⟨hd, rfl⟩ := ir_d_inv o1
  split at h
  · have h : z = (.inl none, M) := (Option.some.inj h).symm
    subst h
    intro H locs hR hS hat ls hl hnn
    exact vx_ret (W.vret hx hb (hret.trans (Option.isNone_iff_eq_none.mp o2)) (fun t ht _ => ⟨⟨none, rfl, rfl⟩, by rw [ht]; exact hR, hS.F ht⟩) hS.2.2 hd hlk)
  · exact nomatch h
end IRU2
