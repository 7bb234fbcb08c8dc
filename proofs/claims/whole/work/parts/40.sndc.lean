/-! FIELDS, NEW CELLS, COPIES. -/
section IRD
variable {p : Program} {l : Launch} {e : Env} {R : Room} {s : State} {m : MethodId} {args : Array Value} {below : List Frame} {meth : Method} {c : Code} {H : Heap} {locs : List Loc} {cells slots : Nat} {Q : State → Prop}
variable {w : ir_Wd} {M : ir_M} {pc y : Nat} {ls : Array Slot} {rest : List Value}
theorem ir_s_getv (hx : p.tables.exec = Jvm.exec) (hb : c.code = ir_co y) (ho : s.vm.findClass (ir_on (ir_o y)) = some m.cls) (hT : ∀ v ∈ ir_Tb, v.before args s = true) (hE : ir_ext w s s.heap) (hR : ir_rep w M H) {a j cc k t : Nat} (hF : ir_FOK (ir_o y) j cc k t) (hg : ir_gk M a cc = true) (hc : cc < 50) (hd : decode (ir_co y) pc = .ok (.getfield j, 3))
    (kk : W p l e R s m args below meth c H locs cells slots Q (F0 m (pc + 3) ls (ir_fv w M a k t :: rest))) : W p l e R s m args below meth c H locs cells slots Q (F0 m pc ls (.ref (ir_ro w a) :: rest)) := by
  obtain ⟨hk, hn⟩ := ir_gk_inv hg
  have ha : a < 1000000 := ir_kd_own hk (by omega)
  obtain ⟨h1, h2, h3⟩ := ir_own_at hR ha hn (by omega)
  rw [ir_ce_o hk hc] at h3
  rw [ir_ro_own ha]
  obtain ⟨q, ty, q1, q2, q3, q4, q5, q6, q7, q8⟩ := hF
  exact va_get hx hb hT (ir_cl_ok cc q q1).1 ho hE.1 hR.1 (a - 1) h3 q1 k q2 (hT _ q3) (fun x h => h) (ir_fs_get w M a cc k q4) hd kk
theorem ir_s_gets0 (hx : p.tables.exec = Jvm.exec) (hb : c.code = ir_co y) (ho : s.vm.findClass (ir_on (ir_o y)) = some m.cls) (hT : ∀ v ∈ ir_Tb, v.before args s = true) (hE : ir_ext w s s.heap) (hR : ir_rep w M H) (hS : va_S (ir_A w) s.heap H locs) {a j : Nat} (hF : Cond.fieldLink (ir_on (ir_o y)) j "java/lang/String" "value" "[B" ∈ ir_Tb) (hg : ir_gk M a 50 = true) (hd : decode (ir_co y) pc = .ok (.getfield j, 3))
    (kk : W p l e R s m args below meth c H locs cells slots Q (F0 m (pc + 3) ls (.ref (ir_ro w (ir_P M a 0)) :: rest))) : W p l e R s m args below meth c H locs cells slots Q (F0 m pc ls (.ref (ir_ro w a) :: rest)) := by
  obtain ⟨i, hi, rfl⟩ : ∃ i, i < 55 ∧ a = 1000000 + i := by
    obtain ⟨hk, hn⟩ := ir_gk_inv hg
    by_cases ha : a < 1000000
    · exfalso
      have := ir_lay_ne a ha
      exact this hk
    · rw [ir_kd_ext ha] at hk
      split at hk
      · exact ⟨a - 1000000, by omega, by omega⟩
      · split at hk
        · exact nomatch hk
        · split at hk <;> exact nomatch hk
  obtain ⟨⟨s1, s2, s3, s4, s5, s6⟩, s7⟩ := hE.2.1 i hi
  obtain ⟨m1, m2, m3⟩ := hR.2.2.2.2.2 (1000000 + i) (by omega)
  rw [ir_ro_ext (by omega)]
  have e1 : ir_ro w (ir_P M (1000000 + i) 0) = w.2.1 (1100000 + i) := by
    show ir_ro w (M.2.2.1 (1000000 + i) 0) = _
    rw [m3, s5, ir_ro_ext (by omega)]
  rw [e1] at kk
  exact vk_getf hx hb s3 hS ho (hT _ hF) (fun x h => h) hd kk
theorem ir_s_gets1 (hx : p.tables.exec = Jvm.exec) (hb : c.code = ir_co y) (ho : s.vm.findClass (ir_on (ir_o y)) = some m.cls) (hT : ∀ v ∈ ir_Tb, v.before args s = true) (hE : ir_ext w s s.heap) (hR : ir_rep w M H) (hS : va_S (ir_A w) s.heap H locs) {a j : Nat} (hF : Cond.fieldLink (ir_on (ir_o y)) j "java/lang/String" "coder" "B" ∈ ir_Tb) (hg : ir_gk M a 50 = true) (hd : decode (ir_co y) pc = .ok (.getfield j, 3))
    (kk : W p l e R s m args below meth c H locs cells slots Q (F0 m (pc + 3) ls (.int (ir_I M a 1) :: rest))) : W p l e R s m args below meth c H locs cells slots Q (F0 m pc ls (.ref (ir_ro w a) :: rest)) := by
  obtain ⟨i, hi, rfl⟩ : ∃ i, i < 55 ∧ a = 1000000 + i := by
    obtain ⟨hk, hn⟩ := ir_gk_inv hg
    by_cases ha : a < 1000000
    · exfalso
      have := ir_lay_ne a ha
      exact this hk
    · rw [ir_kd_ext ha] at hk
      split at hk
      · exact ⟨a - 1000000, by omega, by omega⟩
      · split at hk
        · exact nomatch hk
        · split at hk <;> exact nomatch hk
  obtain ⟨⟨s1, s2, s3, s4, s5, s6⟩, s7⟩ := hE.2.1 i hi
  obtain ⟨m1, m2, m3⟩ := hR.2.2.2.2.2 (1000000 + i) (by omega)
  rw [ir_ro_ext (by omega)]
  have e1 : ir_I M (1000000 + i) 1 = 0 := by
    show M.1 (1000000 + i) 1 = 0
    rw [m1, s6]
  rw [e1] at kk
  exact vk_getf hx hb s2 hS ho (hT _ hF) (fun x h => h) hd kk
/-- a field is written: M' differs from M at that field alone -/
theorem ir_s_put (hx : p.tables.exec = Jvm.exec) (hb : c.code = ir_co y) (ho : s.vm.findClass (ir_on (ir_o y)) = some m.cls) (hT : ∀ v ∈ ir_Tb, v.before args s = true) (hE : ir_ext w s s.heap) (hR : ir_rep w M H) (hS : va_S (ir_A w) s.heap H locs) (hnm : meth.name = (ir_nm y).name) {a j cc k t : Nat} (hF : ir_FOK (ir_o y) j cc k t) (hc : cc < 50)
    (hfin : ir_fin cc k = false ∨ ((ir_nm y).name = "<init>" ∧ cc = ir_o y)) (hg : ir_gq M a cc = true) {M' : ir_M} (h4 : M'.2.2.2 = M.2.2.2) (hM : ∀ b, b ≠ a → M'.1 b = M.1 b ∧ M'.2.1 b = M.2.1 b ∧ M'.2.2.1 b = M.2.2.1 b) (hM2 : ∀ i, i ≠ k → M'.1 a i = M.1 a i ∧ M'.2.1 a i = M.2.1 a i ∧ M'.2.2.1 a i = M.2.2.1 a i)
    {v : Value} (hv : ir_fv w M' a k t = v) (hfit : ∀ ty, ir_tyc ty = t → narrow ty v = v ∧ fits ty v = true) (hd : decode (ir_co y) pc = .ok (.putfield j, 3))
    (kk : ∀ (H1 : Heap) (locs1 : List Loc), ir_rep w M' H1 → va_S (ir_A w) s.heap H1 locs1 → W p l e R s m args below meth c H1 locs1 cells slots Q (F0 m (pc + 3) ls rest)) : W p l e R s m args below meth c H locs cells slots Q (F0 m pc ls (v :: .ref (ir_ro w a) :: rest)) := by
  subst hv
  obtain ⟨g1, g2⟩ := ir_and hg
  obtain ⟨hk, hn⟩ := ir_gk_inv g1
  have ha := ir_blt g2
  obtain ⟨h1, h2, h3⟩ := ir_own_at hR ha hn (by omega)
  rw [ir_ce_o hk hc] at h3
  rw [ir_ro_own ha]
  obtain ⟨q, ty, q1, q2, q3, q4, q5, q6, q7, q8⟩ := hF
  obtain ⟨c1, ⟨ty0, c2, -, -⟩, c3, c4⟩ := ir_cl_ok cc q q1
  obtain ⟨f1, f2⟩ := hfit ty q6
  have fin : ∀ (H1 : Heap) (locs1 : List Loc), va_P w.2.2.2.1 vwCl ((ir_wl w M (ir_nx M - 1)).set (a - 1) (w.1 + a, .inr (cc, (ir_fs w M a cc).set k (ir_fv w M' a k t)))) H1 → va_D (ir_A w) ((ir_wl w M (ir_nx M - 1)).set (a - 1) (w.1 + a, .inr (cc, (ir_fs w M a cc).set k (ir_fv w M' a k t)))) → va_S (ir_A w) s.heap H1 locs1 → W p l e R s m args below meth c H1 locs1 cells slots Q (F0 m (pc + 3) ls rest) := by
    intro H1 locs1 hP1 _ hS1
    refine kk H1 locs1 (ir_rep_set hR h1 h2 h4 hM ?_) hS1
    rw [ir_ce_o hk hc, ← ir_fs_set w M M' a cc k q4 hM2]
    exact hP1
  have hl : k < (ir_fs w M a cc).length := by rw [ir_fs_len]; exact (List.getElem?_eq_some_iff.mp q4).1
  cases hf : (q.2.1 k).2.2.2 with
  | false => exact va_put hx hb hT c1 ty0 c2 c3 ho hE.1 hR.1 (ir_wl_D w M _) hS (a - 1) h3 q1 k q2 (hT _ q3) (fun x h => h) hf q5 f1 f2 hl hd fin
  | true =>
    rcases hfin with hfin | ⟨n1, n2⟩
    · exfalso
      unfold ir_fin at hfin
      rw [q1] at hfin
      dsimp only at hfin
      rw [hf] at hfin
      exact nomatch hfin
    · exact va_putF hx hb hT c1 ty0 c2 c3 ho hE.1 hR.1 (ir_wl_D w M _) hS (a - 1) h3 q1 k q2 (hT _ q3) (fun x h => h) hf (hnm.trans n1) (by rw [q8, n2]) q5 f1 f2 hl hd fin
theorem ir_s_new (hx : p.tables.exec = Jvm.exec) (hb : c.code = ir_co y) (ho : s.vm.findClass (ir_on (ir_o y)) = some m.cls) (hT : ∀ v ∈ ir_Tb, v.before args s = true) (hE : ir_ext w s s.heap) (hR : ir_rep w M H) (hS : va_S (ir_A w) s.heap H locs) (hA : w.1 + 1 ≤ s.heap.size) {j cc n : Nat} (hN : ir_nP (ir_o y, j, cc, n)) (hc : cc < 50) (hg : ir_gn M cc = true)
    (hcells : cells + 1 ≤ R.cells) (hslots : slots + n ≤ R.slots) (hz : s.heap.size + cells ≤ w.1 + ir_nx M) (hd : decode (ir_co y) pc = .ok (.new j, 3))
    (kk : ∀ H1 : Heap, ir_rep w (ir_al M n) H1 → va_S (ir_A w) s.heap H1 locs → W p l e R s m args below meth c H1 locs (cells + 1) (slots + n) Q (F0 m (pc + 3) ls (.ref (ir_ro w (ir_nx M)) :: rest))) : W p l e R s m args below meth c H locs cells slots Q (F0 m pc ls rest) := by
  obtain ⟨g1, g3⟩ := ir_and hg
  obtain ⟨g1, g2⟩ := ir_and g1
  have hk := ir_beq g1
  have hlt := ir_blt g2
  obtain ⟨q, q1, q2, q3, q4, q5⟩ := hN
  dsimp only at q1 q2 q3
  obtain ⟨c1, ⟨ty0, c2, c5, c6⟩, c3, c4⟩ := ir_cl_ok cc q q1
  subst q2
  have r1 := hR.2.1
  refine va_new (fs := ir_fs w M (ir_nx M) cc) hx hb hT c1 ty0 c2 ho (hT _ q3) (hT _ q4) (hT _ q5) hE.1 hR.1 (ir_wl_D w M _) hS (ir_A_new hA) q1 (fun i hi => ?_) hcells hslots hd (fun q9 H1 hP1 hD1 hS1 => ir_size fun hz1 => ?_)
  · have e1 := ir_fs_get w M (ir_nx M) cc i (c5 i hi)
    have e2 : vp_V (ir_fs w M (ir_nx M) cc) i = ir_fv w M (ir_nx M) i (ir_tyc (ty0 i)) := by simp [vp_V, e1]
    obtain ⟨z1, z2, z3⟩ := hR.2.2.2.2.1 (ir_nx M) (Nat.le_refl _) hlt i
    rw [e2]
    have h6 := c6 i hi
    revert h6
    cases ty0 i <;> intro h6 <;> first
      | exact absurd h6 (by decide)
      | (show _ = Value.int (M.1 (ir_nx M) i); rw [z1]; rfl)
      | (show _ = Value.long (M.2.1 (ir_nx M) i); rw [z2]; rfl)
      | (show _ = va_rf (ir_op w (M.2.2.1 (ir_nx M) i)); rw [z3]; rfl)
  · have e3 := ir_place hP1 hD1 (by omega)
    rw [show ir_nx M - 1 + 1 = ir_nx M by omega] at e3
    subst e3
    rw [← ir_ro_own (w := w) hlt]
    refine kk H1 (ir_rep_al _ hR hlt ?_) hS1
    rw [ir_ce_o hk hc]
    exact hP1
theorem ir_arr_eq {tys : List (ClassId × FieldType)} {D : va_G} {cl : List vw_C} {k : Nat} {cA cB : ClassId} {ty : FieldType} (h1 : va_K D cl tys s) (hk : tys[k]? = some (cA, ty)) (h2 : va_K D cl (tys ++ [(cB, ty)]) s) : cB = cA := by
  have a1 := (h1.2 k _ hk).2
  have a2 := (h2.2 tys.length (cB, ty) (by simp)).2
  cases ty with
  | object C =>
    obtain ⟨_, _, -, -, -, x1⟩ := a1
    obtain ⟨_, _, -, -, -, x2⟩ := a2
    exact Option.some.inj (x2.symm.trans x1)
  | _ => exact Option.some.inj ((show s.vm.findClass _ = some cB from a2).symm.trans (show s.vm.findClass _ = some cA from a1))
theorem ir_gna_inv {k : Nat} {v : Int32} (h : ir_gna M k v = true) : ir_kd (ir_nx M) = k ∧ ir_nx M < 1000000 ∧ ir_ex M = true ∧ ¬ v < 0 ∧ ir_ln M (ir_nx M) = v.toNatClampNeg ∧ v.toNatClampNeg ≤ 5000 := by
  obtain ⟨h, h4⟩ := ir_and h
  obtain ⟨h, h3⟩ := ir_and h
  obtain ⟨h1, h2⟩ := ir_and h
  obtain ⟨h1, h5⟩ := ir_and h1
  obtain ⟨h1, h6⟩ := ir_and h1
  exact ⟨ir_beq h1, ir_blt h6, h5, by simpa using h2, ir_beq h3, Nat.le_of_ble_eq_true h4⟩
/-- an array of a kind that is not of references -/
theorem ir_s_newa (hx : p.tables.exec = Jvm.exec) (hb : c.code = ir_co y) (hT : ∀ v ∈ ir_Tb, v.before args s = true) (hE : ir_ext w s s.heap) (hR : ir_rep w M H) (hS : va_S (ir_A w) s.heap H locs) (hA : w.1 + 1 ≤ s.heap.size) {at0 : ArrayType} {k : Nat} {v : Int32} (hat : 100 + k = ir_atk at0) (hk5 : k < 5) (hg : ir_gna M (100 + k) v = true)
    (hcells : cells + 1 ≤ R.cells) (hslots : slots + v.toNatClampNeg ≤ R.slots) (hz : s.heap.size + cells ≤ w.1 + ir_nx M) (hd : decode (ir_co y) pc = .ok (.newarray at0, 2))
    (kk : ∀ H1 : Heap, ir_rep w (ir_al M v.toNatClampNeg) H1 → va_S (ir_A w) s.heap H1 locs → W p l e R s m args below meth c H1 locs (cells + 1) (slots + v.toNatClampNeg) Q (F0 m (pc + 2) ls (.ref (ir_ro w (ir_nx M)) :: rest))) : W p l e R s m args below meth c H locs cells slots Q (F0 m pc ls (.int v :: rest)) := by
  obtain ⟨hk, hlt, hex, hv, hl, h5⟩ := ir_gna_inv hg
  have r1 := hR.2.1
  have key : ∀ (ty : FieldType) (a0 : vp_A), newarray.typeOf at0 = ty → Cond.arrayClass ty ∈ ir_Tb → (ir_tys w)[k]? = some (w.2.2.2.2.1 k, ty) → (∀ cA : ClassId, vp_cell cA a0 = arrV cA v.toNatClampNeg (fun _ => defaultValue ty)) → componentBytes ty ≤ 8 → ir_ce w M (ir_nx M) = .inl (w.2.2.2.2.1 k, a0) → W p l e R s m args below meth c H locs cells slots Q (F0 m pc ls (.int v :: rest)) := by
    intro ty a0 hty hac ht ha0 hby hce
    refine va_newa hx hb (by rw [hty]; exact hT _ hac) hty hE.1 hR.1 (ir_wl_D w M _) hS (ir_A_new hA) ha0 hv rfl ?_ hcells hslots hd (fun q9 cA H1 hK1 hP1 hD1 hS1 => ir_size fun hz1 => ?_)
    · exact Nat.le_trans (Nat.mul_le_mul h5 hby) (by decide)
    · have e3 := ir_place hP1 hD1 (by omega)
      rw [show ir_nx M - 1 + 1 = ir_nx M by omega] at e3
      subst e3
      have e4 := ir_arr_eq hE.1 ht hK1
      subst e4
      rw [← ir_ro_own (w := w) hlt]
      refine kk H1 (ir_rep_al _ hR hlt ?_) hS1
      rw [hce]
      exact hP1
  have zi : M.1 (ir_nx M) = fun _ => 0 := funext fun i => (hR.2.2.2.2.1 (ir_nx M) (Nat.le_refl _) hlt i).1
  have zl : M.2.1 (ir_nx M) = fun _ => 0 := funext fun i => (hR.2.2.2.2.1 (ir_nx M) (Nat.le_refl _) hlt i).2.1
  cases at0 <;> first
    | exact absurd hat (show ¬ 100 + k = 99 by omega)
    | (have hk0 : k = 0 := by have h9 : 100 + k = 100 := hat; omega
       subst hk0
       exact key .int (v.toNatClampNeg, .inl fun _ => 0) rfl ir_ac_int rfl (fun cA => rfl) (by decide) (by rw [ir_ce_i hk (by omega) (by omega), hl, zi]))
    | (have hk0 : k = 1 := by have h9 : 100 + k = 101 := hat; omega
       subst hk0
       exact key .long (v.toNatClampNeg, .inr (.inl fun _ => 0)) rfl ir_ac_long rfl (fun cA => rfl) (by decide) (by rw [ir_ce_l hk, hl, zl]))
    | (have hk0 : k = 2 := by have h9 : 100 + k = 102 := hat; omega
       subst hk0
       exact key .byte (v.toNatClampNeg, .inl fun _ => 0) rfl ir_ac_byte rfl (fun cA => rfl) (by decide) (by rw [ir_ce_i hk (by omega) (by omega), hl, zi]))
    | (have hk0 : k = 3 := by have h9 : 100 + k = 103 := hat; omega
       subst hk0
       exact key .boolean (v.toNatClampNeg, .inl fun _ => 0) rfl ir_ac_boolean rfl (fun cA => rfl) (by decide) (by rw [ir_ce_i hk (by omega) (by omega), hl, zi]))
    | (have hk0 : k = 4 := by have h9 : 100 + k = 104 := hat; omega
       subst hk0
       exact key .char (v.toNatClampNeg, .inl fun _ => 0) rfl ir_ac_char rfl (fun cA => rfl) (by decide) (by rw [ir_ce_i hk (by omega) (by omega), hl, zi]))
theorem ir_s_newq (hx : p.tables.exec = Jvm.exec) (hb : c.code = ir_co y) (ho : s.vm.findClass (ir_on (ir_o y)) = some m.cls) (hT : ∀ v ∈ ir_Tb, v.before args s = true) (hE : ir_ext w s s.heap) (hR : ir_rep w M H) (hS : va_S (ir_A w) s.heap H locs) (hA : w.1 + 1 ≤ s.heap.size) {j cc : Nat} {v : Int32} (hq : ir_aP (ir_o y, j, cc)) (hcc : cc = 105 ∨ cc = 106 ∨ cc = 107) (hg : ir_gna M cc v = true)
    (hcells : cells + 1 ≤ R.cells) (hslots : slots + v.toNatClampNeg ≤ R.slots) (hz : s.heap.size + cells ≤ w.1 + ir_nx M) (hd : decode (ir_co y) pc = .ok (.anewarray j, 3))
    (kk : ∀ H1 : Heap, ir_rep w (ir_al M v.toNatClampNeg) H1 → va_S (ir_A w) s.heap H1 locs → W p l e R s m args below meth c H1 locs (cells + 1) (slots + v.toNatClampNeg) Q (F0 m (pc + 3) ls (.ref (ir_ro w (ir_nx M)) :: rest))) : W p l e R s m args below meth c H locs cells slots Q (F0 m pc ls (.int v :: rest)) := by
  have r1 := hR.2.1
  have key : ∀ (k : Nat) (C : String), 5 ≤ k → cc = 100 + k → ir_anm cc = C → va_AO C s → (ir_tys w)[k]? = some (w.2.2.2.2.1 k, .object C) → W p l e R s m args below meth c H locs cells slots Q (F0 m pc ls (.int v :: rest)) := by
    intro k C k5 hcc hC hAO ht
    subst hcc
    obtain ⟨hk, hlt, hex, hv, hl, h5⟩ := ir_gna_inv hg
    have zp : (fun i => ir_op w (M.2.2.1 (ir_nx M) i)) = fun _ => none := funext fun i => by rw [(hR.2.2.2.2.1 (ir_nx M) (Nat.le_refl _) hlt i).2.2]; rfl
    have hlk : (Cond.classLink (ir_on (ir_o y)) j C).before args s = true := by rw [← hC]; exact hT _ hq
    refine va_newq hx hb ho hlk hAO hE.1 hR.1 (ir_wl_D w M _) hS (ir_A_new hA) hv rfl (by omega) hcells hslots hd (fun q9 cA H1 hK1 hP1 hD1 hS1 => ir_size fun hz1 => ?_)
    have e3 := ir_place hP1 hD1 (by omega)
    rw [show ir_nx M - 1 + 1 = ir_nx M by omega] at e3
    subst e3
    have e4 := ir_arr_eq hE.1 ht hK1
    subst e4
    rw [← ir_ro_own (w := w) hlt]
    refine kk H1 (ir_rep_al _ hR hlt ?_) hS1
    rw [ir_ce_r hk k5, hl, zp]
    exact hP1
  rcases hcc with rfl | rfl | rfl
  · exact key 5 "WellQueue$State" (by omega) rfl rfl hE.2.2.2.2.2.2.2.2.2.2.2.1 rfl
  · exact key 6 "WellQueue$Scene" (by omega) rfl rfl hE.2.2.2.2.2.2.2.2.2.2.2.2.1 rfl
  · exact key 7 "WellQueue$Tray" (by omega) rfl rfl hE.2.2.2.2.2.2.2.2.2.2.2.2.2.1 rfl
theorem ir_s_copy (hx : p.tables.exec = Jvm.exec) (hb : c.code = ir_co y) (hml : c.maxLocals = ls.size) (ho : s.vm.findClass (ir_on (ir_o y)) = some m.cls) (hT : ∀ v ∈ ir_Tb, v.before args s = true) (hE : ir_ext w s s.heap) (hR : ir_rep w M H) (hS : va_S (ir_A w) s.heap H locs) {j a b : Nat} {sp dp n : Int32} (hq : ir_yP (ir_o y, j)) (hg : ir_cpg M a sp b dp n = true)
    (hfr : 1 ≤ R.frames) (hlo : (rest.map fun v => v.category).sum + 40 ≤ R.locals) (hd : decode (ir_co y) pc = .ok (.invokestatic j, 3))
    (kk : ∀ (H1 : Heap) (locs1 : List Loc), ir_rep w (ir_cp M a sp.toNatClampNeg b dp.toNatClampNeg n.toNatClampNeg) H1 → va_S (ir_A w) s.heap H1 locs1 → W p l e R s m args below meth c H1 locs1 cells slots Q (F0 m (pc + 3) ls rest)) : W p l e R s m args below meth c H locs cells slots Q (F0 m pc ls (.int n :: .int dp :: .ref (ir_ro w b) :: .int sp :: .ref (ir_ro w a) :: rest)) := by
  obtain ⟨hg, g9⟩ := ir_and hg
  obtain ⟨hg, g8⟩ := ir_and hg
  obtain ⟨hg, g7⟩ := ir_and hg
  obtain ⟨hg, g6⟩ := ir_and hg
  obtain ⟨hg, g5⟩ := ir_and hg
  obtain ⟨hg, g4⟩ := ir_and hg
  obtain ⟨hg, g3⟩ := ir_and hg
  obtain ⟨g1, g2⟩ := ir_and hg
  obtain ⟨k1, n1⟩ := ir_gk_inv g1
  obtain ⟨k2, n2⟩ := ir_gk_inv g2
  have ha := ir_blt g3
  have hb2 := ir_blt g4
  obtain ⟨a1, a2, a3⟩ := ir_own_at hR ha n1 (by rw [k1]; decide)
  obtain ⟨b1, b2, b3⟩ := ir_own_at hR hb2 n2 (by rw [k2]; decide)
  rw [ir_ce_i (k := 0) k1 (by omega) (by omega)] at a3
  rw [ir_ce_i (k := 0) k2 (by omega) (by omega)] at b3
  rw [ir_ro_own ha, ir_ro_own hb2]
  refine va_copyi hx hb hml ho (hT _ hq) (hT _ ir_sys.1) (hT _ ir_sys.2.1) (hT _ ir_sys.2.2) hE.1 hR.1 (ir_wl_D w M _) hS (a - 1) (b - 1) 0 0 a3 b3 (ty := .int) rfl rfl rfl (by simpa using g5) (by simpa using g6) (by simpa using g7) (Nat.le_of_ble_eq_true g8) (Nat.le_of_ble_eq_true g9) (fun i hi => rfl) hfr (Nat.le_trans (Nat.add_le_add_left (by decide) _) hlo) hd (fun H1 locs1 hP1 _ hS1 => kk H1 locs1 (ir_rep_set hR b1 b2 rfl (fun q hq => ⟨if_neg hq, rfl, rfl⟩) ?_) hS1)
  rw [ir_ce_i (k := 0) k2 (by omega) (by omega), show (ir_cp M a sp.toNatClampNeg b dp.toNatClampNeg n.toNatClampNeg).1 b = va_cpy (M.1 a) (M.1 b) sp.toNatClampNeg dp.toNatClampNeg n.toNatClampNeg from if_pos rfl]
  exact hP1
end IRD
