/-! MEMORY: the rows of loads, stores and new cells, over a memory that lies in the heap. -/
theorem ir_or {a b : Bool} (h : (a || b) = true) : a = true ∨ b = true := by rwa [Bool.or_eq_true] at h
theorem ir_gk_inv {M : ir_M} {a c : Nat} (h : ir_gk M a c = true) : ir_kd a = c ∧ (a < ir_nx M ∨ 1000000 ≤ a) := by
  obtain ⟨h1, h2⟩ := ir_and h
  refine ⟨ir_beq h1, ?_⟩
  rcases ir_or h2 with h | h
  · exact Or.inl (ir_blt h)
  · exact Or.inr (Nat.le_of_ble_eq_true h)
theorem ir_inb_inv {i : Int32} {n : Nat} (h : ir_inb i n = true) : vp_in i n := by
  obtain ⟨h1, h2⟩ := ir_and h
  have h1 : ¬ i < 0 := by simpa using h1
  have h2 := of_decide_eq_true h2
  rintro (q | q)
  · exact h1 q
  · omega
theorem ir_blt_f {a b : Nat} (h : ¬ a < b) : Nat.blt a b = false := by
  cases hb : Nat.blt a b with
  | false => rfl
  | true => exact absurd (ir_blt hb) h
theorem ir_blt_t {a b : Nat} (h : a < b) : Nat.blt a b = true := Nat.ble_eq_true_of_le h
theorem ir_kd_ext {a : Nat} (h : ¬ a < 1000000) : ir_kd a = (if 1000000 ≤ a ∧ a < 1000055 then 50 else if 1100000 ≤ a ∧ a < 1100055 then 102 else if a = 2000000 ∨ a = 3000000 then 100 else 99) := by
  unfold ir_kd
  rw [ir_blt_f h]
theorem ir_kd_own {a c : Nat} (h : ir_kd a = c) (hc : c ≠ 50 ∧ c ≠ 102 ∧ c ≠ 100 ∧ c ≠ 99) : a < 1000000 := by
  by_cases ha : a < 1000000
  · exact ha
  · rw [ir_kd_ext ha] at h
    split at h
    · exact absurd h.symm hc.1
    · split at h
      · exact absurd h.symm hc.2.1
      · split at h
        · exact absurd h.symm hc.2.2.1
        · exact absurd h.symm hc.2.2.2
theorem ir_kd_0 : ir_kd 0 = 99 := by decide +kernel
theorem ir_lay_le : ∀ l ∈ ir_lay, ∀ q ∈ l, q.1 ≤ 107 := by decide +kernel
theorem ir_kd_le (a : Nat) : ir_kd a ≤ 107 := by
  by_cases ha : a < 1000000
  · unfold ir_kd
    rw [ir_blt_t ha]
    dsimp only
    split
    · rename_i l hl
      split
      · rename_i q hq
        exact ir_lay_le l (ir_nth_mem _ _ _ hl) q (ir_nth_mem _ _ _ hq)
      · omega
    · omega
  · rw [ir_kd_ext ha]
    split
    · omega
    · split
      · omega
      · split <;> omega
theorem ir_lay_n50 : ∀ l ∈ ir_lay, ∀ q ∈ l, q.1 ≠ 50 := by decide +kernel
theorem ir_lay_ne (a : Nat) (ha : a < 1000000) : ir_kd a ≠ 50 := by
  unfold ir_kd
  rw [ir_blt_t ha]
  dsimp only
  split
  · rename_i l hl
    split
    · rename_i q hq
      exact ir_lay_n50 l (ir_nth_mem _ _ _ hl) q (ir_nth_mem _ _ _ hq)
    · omega
  · omega
theorem ir_ln_own {M M' : ir_M} {a : Nat} (h : a < 1000000) : ir_ln M' a = ir_ln M a := by
  unfold ir_ln
  rw [ir_blt_t h]
theorem ir_ln_ext {M : ir_M} {a : Nat} (h : ¬ a < 1000000) : ir_ln M a = (M.2.1 a 0).toInt.toNat := by
  unfold ir_ln
  rw [ir_blt_f h]
theorem ir_ce_o {w : ir_Wd} {M : ir_M} {a c : Nat} (h : ir_kd a = c) (hc : c < 50) : ir_ce w M a = .inr (c, ir_fs w M a c) := by
  subst h
  exact if_pos hc
theorem ir_ce_l {w : ir_Wd} {M : ir_M} {a : Nat} (h : ir_kd a = 101) : ir_ce w M a = .inl (w.2.2.2.2.1 1, ir_ln M a, .inr (.inl (M.2.1 a))) := by
  unfold ir_ce
  rw [h]
  rfl
theorem ir_ce_i {w : ir_Wd} {M : ir_M} {a k : Nat} (h : ir_kd a = 100 + k) (hk : k < 5) (h1 : k ≠ 1) : ir_ce w M a = .inl (w.2.2.2.2.1 k, ir_ln M a, .inl (M.1 a)) := by
  unfold ir_ce
  rw [h, if_neg (by omega), if_neg (by omega), if_neg (by omega), Nat.add_sub_cancel_left]
theorem ir_ce_r {w : ir_Wd} {M : ir_M} {a k : Nat} (h : ir_kd a = 100 + k) (hk : 5 ≤ k) : ir_ce w M a = .inl (w.2.2.2.2.1 k, ir_ln M a, .inr (.inr (.inr (.inr (fun i => ir_op w (M.2.2.1 a i)))))) := by
  unfold ir_ce
  rw [h, if_neg (by omega), if_neg (by omega), if_pos (by omega), Nat.add_sub_cancel_left]
theorem ir_own_at {w : ir_Wd} {M : ir_M} {H : Heap} (hR : ir_rep w M H) {a : Nat} (ha : a < 1000000) (hn : a < ir_nx M ∨ 1000000 ≤ a) (h99 : ir_kd a ≠ 99) : 1 ≤ a ∧ a < ir_nx M ∧ (ir_wl w M (ir_nx M - 1))[a - 1]? = some (w.1 + a, ir_ce w M a) := by
  have h1 : 1 ≤ a := by
    cases a with
    | zero => exact absurd ir_kd_0 h99
    | succ a => omega
  have h2 : a < ir_nx M := by omega
  exact ⟨h1, h2, ir_wl_get w M h1 (by omega)⟩
theorem ir_A_new {w : ir_Wd} {s : State} (h : w.1 + 1 ≤ s.heap.size) : ∀ q, s.heap.size ≤ q → ir_A w q := fun q hq => Nat.le_trans h hq
/-- a memory that has grown by the cell that comes next -/
theorem ir_rep_al {w : ir_Wd} {M : ir_M} {H H1 : Heap} (k : Nat) (hR : ir_rep w M H) (hlt : ir_nx M < 1000000) (hP : va_P w.2.2.2.1 vwCl (ir_wl w M (ir_nx M - 1) ++ [(w.1 + ir_nx M, ir_ce w M (ir_nx M))]) H1) : ir_rep w (ir_al M k) H1 := by
  obtain ⟨-, r1, r2, r3, r5, r6⟩ := hR
  have e1 : ir_wl w M (ir_nx M - 1) ++ [(w.1 + ir_nx M, ir_ce w M (ir_nx M))] = ir_wl w M (ir_nx M) := by
    conv => rhs; rw [show ir_nx M = ir_nx M - 1 + 1 by omega]
    rw [ir_wl, ir_wl, List.range_succ, List.map_append, List.map_singleton, show ir_nx M - 1 + 1 = ir_nx M by omega]
  rw [e1] at hP
  have hl := (hP (ir_nx M - 1) _ (ir_wl_get w M r1 (Nat.le_refl _))).lt
  dsimp only at hl
  refine ⟨hP, by show 1 ≤ ir_nx M + 1; omega, by show ir_nx M + 1 ≤ 1000000; omega, by show w.1 + (ir_nx M + 1) ≤ H1.size; omega, fun a ha h2 => r5 a (by have : ir_nx M + 1 ≤ a := ha; omega) h2, r6⟩
/-- where the new cell lies -/
theorem ir_place {w : ir_Wd} {M : ir_M} {H1 : Heap} {q n : Nat} {E : va_E} (hP : va_P w.2.2.2.1 vwCl (ir_wl w M n ++ [(q, E)]) H1) (hD : va_D (ir_A w) (ir_wl w M n ++ [(q, E)])) (hz : H1.size ≤ w.1 + (n + 1) + 1) : q = w.1 + (n + 1) := by
  have hi : (ir_wl w M n ++ [(q, E)])[n]? = some (q, E) := by
    rw [List.getElem?_append_right (by rw [ir_wl_len]; omega), ir_wl_len, Nat.sub_self]; rfl
  have h1 := (hP n _ hi).lt
  have h2 : w.1 + 1 ≤ q := hD.2 n _ hi
  dsimp only at h1
  by_cases h3 : q = w.1 + (n + 1)
  · exact h3
  · exfalso
    have h4 : (ir_wl w M n ++ [(q, E)])[q - w.1 - 1]? = some (w.1 + (q - w.1), ir_ce w M (q - w.1)) := by
      rw [List.getElem?_append_left (by rw [ir_wl_len]; omega)]
      exact ir_wl_get w M (by omega) (by omega)
    have h5 := hD.1 _ _ _ _ hi h4 (by dsimp only; omega)
    omega
section IRB
variable {p : Program} {l : Launch} {e : Env} {R : Room} {s : State} {m : MethodId} {args : Array Value} {below : List Frame} {meth : Method} {c : Code} {H : Heap} {locs : List Loc} {cells slots : Nat} {Q : State → Prop}
variable {w : ir_Wd} {M : ir_M} {pc y : Nat} {ls : Array Slot} {rest : List Value}
theorem ir_size {g : JFrame} (k : H.size ≤ s.heap.size + cells → W p l e R s m args below meth c H locs cells slots Q g) : W p l e R s m args below meth c H locs cells slots Q g :=
  fun T hT X => k (by rw [← hT]; exact X.heapSize) T hT X
theorem ir_s_iald (hx : p.tables.exec = Jvm.exec) (hb : c.code = ir_co y) (hE : ir_ext w s s.heap) (hR : ir_rep w M H) (hS : va_S (ir_A w) s.heap H locs) {a : Nat} {i : Int32} (hg : ir_ga M a 100 i = true) (hd : decode (ir_co y) pc = .ok (.iaload, 1))
    (kk : W p l e R s m args below meth c H locs cells slots Q (F0 m (pc + 1) ls (.int (ir_I M a i.toNatClampNeg) :: rest))) : W p l e R s m args below meth c H locs cells slots Q (F0 m pc ls (.int i :: .ref (ir_ro w a) :: rest)) := by
  obtain ⟨hk, hn⟩ := ir_gk_inv (ir_and hg).1
  have hi := ir_inb_inv (ir_and hg).2
  by_cases ha : a < 1000000
  · obtain ⟨h1, h2, h3⟩ := ir_own_at hR ha hn (by rw [hk]; decide)
    rw [ir_ce_i (k := 0) hk (by omega) (by omega)] at h3
    rw [ir_ro_own ha]
    exact va_iald hx hb hE.1 hR.1 (a - 1) 0 h3 rfl hi hd kk
  · rw [ir_ro_ext ha]
    rw [ir_kd_ext ha] at hk
    obtain ⟨m1, m2, -⟩ := hR.2.2.2.2.2 a (by omega)
    rw [ir_ln_ext ha, m2] at hi
    have kk' : W p l e R s m args below meth c H locs cells slots Q (F0 m (pc + 1) ls (.int (w.2.2.2.2.2.1 a i.toNatClampNeg) :: rest)) := by
      rw [← m1]; exact kk
    have ha2 : a = 2000000 ∨ a = 3000000 := by
      split at hk
      · exact nomatch hk
      · split at hk
        · exact nomatch hk
        · split at hk
          · assumption
          · exact nomatch hk
    rcases ha2 with rfl | rfl
    · exact va_ti hx hb hE.2.2.2.2.2.2.1 hS hi rfl hd kk'
    · exact va_ti hx hb hE.2.2.2.2.2.1 hS hi rfl hd kk'
theorem ir_s_bald (hx : p.tables.exec = Jvm.exec) (hb : c.code = ir_co y) (hE : ir_ext w s s.heap) (hR : ir_rep w M H) (hS : va_S (ir_A w) s.heap H locs) {a : Nat} {i : Int32} (hg : (ir_ga M a 102 i || ir_ga M a 103 i) = true) (hd : decode (ir_co y) pc = .ok (.baload, 1))
    (kk : W p l e R s m args below meth c H locs cells slots Q (F0 m (pc + 1) ls (.int (ir_I M a i.toNatClampNeg) :: rest))) : W p l e R s m args below meth c H locs cells slots Q (F0 m pc ls (.int i :: .ref (ir_ro w a) :: rest)) := by
  rcases ir_or hg with hg | hg
  · obtain ⟨hk, hn⟩ := ir_gk_inv (ir_and hg).1
    have hi := ir_inb_inv (ir_and hg).2
    by_cases ha : a < 1000000
    · obtain ⟨h1, h2, h3⟩ := ir_own_at hR ha hn (by rw [hk]; decide)
      rw [ir_ce_i (k := 2) hk (by omega) (by omega)] at h3
      rw [ir_ro_own ha]
      exact va_bald hx hb hE.1 hR.1 (a - 1) 2 h3 rfl hi hd kk
    · rw [ir_ro_ext ha]
      rw [ir_kd_ext ha] at hk
      obtain ⟨m1, m2, -⟩ := hR.2.2.2.2.2 a (by omega)
      rw [ir_ln_ext ha, m2] at hi
      have kk' : W p l e R s m args below meth c H locs cells slots Q (F0 m (pc + 1) ls (.int (w.2.2.2.2.2.1 a i.toNatClampNeg) :: rest)) := by
        rw [← m1]; exact kk
      have ha2 : 1100000 ≤ a ∧ a < 1100055 := by
        split at hk
        · exact nomatch hk
        · split at hk
          · assumption
          · split at hk <;> exact nomatch hk
      obtain ⟨j, rfl⟩ : ∃ j, a = 1100000 + j := ⟨a - 1100000, by omega⟩
      exact va_tb hx hb (hE.2.1 j (by omega)).1.2.2.2.1 hS hi rfl hd kk'
  · obtain ⟨hk, hn⟩ := ir_gk_inv (ir_and hg).1
    have hi := ir_inb_inv (ir_and hg).2
    have ha : a < 1000000 := ir_kd_own hk (by decide)
    obtain ⟨h1, h2, h3⟩ := ir_own_at hR ha hn (by rw [hk]; decide)
    rw [ir_ce_i (k := 3) hk (by omega) (by omega)] at h3
    rw [ir_ro_own ha]
    exact va_zald hx hb hE.1 hR.1 (a - 1) 3 h3 rfl hi hd kk
theorem ir_s_cald (hx : p.tables.exec = Jvm.exec) (hb : c.code = ir_co y) (hE : ir_ext w s s.heap) (hR : ir_rep w M H) {a : Nat} {i : Int32} (hg : ir_ga M a 104 i = true) (hd : decode (ir_co y) pc = .ok (.caload, 1))
    (kk : W p l e R s m args below meth c H locs cells slots Q (F0 m (pc + 1) ls (.int (ir_I M a i.toNatClampNeg) :: rest))) : W p l e R s m args below meth c H locs cells slots Q (F0 m pc ls (.int i :: .ref (ir_ro w a) :: rest)) := by
  obtain ⟨hk, hn⟩ := ir_gk_inv (ir_and hg).1
  have hi := ir_inb_inv (ir_and hg).2
  have ha : a < 1000000 := ir_kd_own hk (by decide)
  obtain ⟨h1, h2, h3⟩ := ir_own_at hR ha hn (by rw [hk]; decide)
  rw [ir_ce_i (k := 4) hk (by omega) (by omega)] at h3
  rw [ir_ro_own ha]
  exact va_cald hx hb hE.1 hR.1 (a - 1) 4 h3 rfl hi hd kk
theorem ir_s_lald (hx : p.tables.exec = Jvm.exec) (hb : c.code = ir_co y) (hE : ir_ext w s s.heap) (hR : ir_rep w M H) {a : Nat} {i : Int32} (hg : ir_ga M a 101 i = true) (hd : decode (ir_co y) pc = .ok (.laload, 1))
    (kk : W p l e R s m args below meth c H locs cells slots Q (F0 m (pc + 1) ls (.long (ir_J M a i.toNatClampNeg) :: rest))) : W p l e R s m args below meth c H locs cells slots Q (F0 m pc ls (.int i :: .ref (ir_ro w a) :: rest)) := by
  obtain ⟨hk, hn⟩ := ir_gk_inv (ir_and hg).1
  have hi := ir_inb_inv (ir_and hg).2
  have ha : a < 1000000 := ir_kd_own hk (by decide)
  obtain ⟨h1, h2, h3⟩ := ir_own_at hR ha hn (by rw [hk]; decide)
  rw [ir_ce_l hk] at h3
  rw [ir_ro_own ha]
  exact va_lald hx hb hE.1 hR.1 (a - 1) 1 h3 rfl hi hd kk
theorem ir_op_pos {x : Nat} (h : 0 < x) : va_rf (ir_op w x) = .ref (ir_ro w x) := by
  unfold ir_op
  rw [if_neg (by omega)]
  rfl
theorem ir_s_aald (hx : p.tables.exec = Jvm.exec) (hb : c.code = ir_co y) (hE : ir_ext w s s.heap) (hR : ir_rep w M H) {a : Nat} {i : Int32} (hg : ((ir_ga M a 105 i || ir_ga M a 106 i || ir_ga M a 107 i) && Nat.blt 0 (ir_P M a i.toNatClampNeg)) = true) (hd : decode (ir_co y) pc = .ok (.aaload, 1))
    (kk : W p l e R s m args below meth c H locs cells slots Q (F0 m (pc + 1) ls (.ref (ir_ro w (ir_P M a i.toNatClampNeg)) :: rest))) : W p l e R s m args below meth c H locs cells slots Q (F0 m pc ls (.int i :: .ref (ir_ro w a) :: rest)) := by
  obtain ⟨hg, h0⟩ := ir_and hg
  rw [← ir_op_pos (w := w) (ir_blt h0)] at kk
  have key : ∀ k, 5 ≤ k → k ≤ 7 → ir_ga M a (100 + k) i = true → ∀ C, (ir_tys w)[k]? = some (w.2.2.2.2.1 k, .object C) → W p l e R s m args below meth c H locs cells slots Q (F0 m pc ls (.int i :: .ref (ir_ro w a) :: rest)) := by
    intro k k5 k7 hg C ht
    obtain ⟨hk, hn⟩ := ir_gk_inv (ir_and hg).1
    have hi := ir_inb_inv (ir_and hg).2
    have ha : a < 1000000 := ir_kd_own hk (by omega)
    obtain ⟨h1, h2, h3⟩ := ir_own_at hR ha hn (by rw [hk]; omega)
    rw [ir_ce_r hk k5] at h3
    rw [ir_ro_own ha]
    exact va_aldq hx hb hE.1 hR.1 (a - 1) k h3 ht hi hd kk
  rcases ir_or hg with hg | hg
  · rcases ir_or hg with hg | hg
    · exact key 5 (by omega) (by omega) hg _ rfl
    · exact key 6 (by omega) (by omega) hg _ rfl
  · exact key 7 (by omega) (by omega) hg _ rfl
theorem ir_s_len (hx : p.tables.exec = Jvm.exec) (hb : c.code = ir_co y) (hE : ir_ext w s s.heap) (hR : ir_rep w M H) (hS : va_S (ir_A w) s.heap H locs) {a : Nat} (hg : ir_gl M a = true) (hd : decode (ir_co y) pc = .ok (.arraylength, 1))
    (kk : W p l e R s m args below meth c H locs cells slots Q (F0 m (pc + 1) ls (.int (Int32.ofNat (ir_ln M a)) :: rest))) : W p l e R s m args below meth c H locs cells slots Q (F0 m pc ls (.ref (ir_ro w a) :: rest)) := by
  obtain ⟨g1, g2⟩ := ir_and hg
  have g1 : 100 ≤ ir_kd a := Nat.le_of_ble_eq_true g1
  have hn : a < ir_nx M ∨ 1000000 ≤ a := by
    rcases ir_or g2 with h | h
    · exact Or.inl (ir_blt h)
    · exact Or.inr (Nat.le_of_ble_eq_true h)
  have g3 := ir_kd_le a
  by_cases ha : a < 1000000
  · obtain ⟨h1, h2, h3⟩ := ir_own_at hR ha hn (by omega)
    rw [ir_ro_own ha]
    have h8 : ir_kd a = 100 + 0 ∨ ir_kd a = 101 ∨ ir_kd a = 100 + 2 ∨ ir_kd a = 100 + 3 ∨ ir_kd a = 100 + 4 ∨ ir_kd a = 100 + 5 ∨ ir_kd a = 100 + 6 ∨ ir_kd a = 100 + 7 := by omega
    rcases h8 with h | h | h | h | h | h | h | h
    · rw [ir_ce_i h (by omega) (by omega)] at h3; exact va_alen hx hb hE.1 hR.1 (a - 1) 0 h3 (ty := .int) rfl rfl hd kk
    · rw [ir_ce_l h] at h3; exact va_alen hx hb hE.1 hR.1 (a - 1) 1 h3 (ty := .long) rfl rfl hd kk
    · rw [ir_ce_i h (by omega) (by omega)] at h3; exact va_alen hx hb hE.1 hR.1 (a - 1) 2 h3 (ty := .byte) rfl rfl hd kk
    · rw [ir_ce_i h (by omega) (by omega)] at h3; exact va_alen hx hb hE.1 hR.1 (a - 1) 3 h3 (ty := .boolean) rfl rfl hd kk
    · rw [ir_ce_i h (by omega) (by omega)] at h3; exact va_alen hx hb hE.1 hR.1 (a - 1) 4 h3 (ty := .char) rfl rfl hd kk
    · rw [ir_ce_r h (by omega)] at h3; exact va_alen hx hb hE.1 hR.1 (a - 1) 5 h3 (ty := .object "WellQueue$State") rfl rfl hd kk
    · rw [ir_ce_r h (by omega)] at h3; exact va_alen hx hb hE.1 hR.1 (a - 1) 6 h3 (ty := .object "WellQueue$Scene") rfl rfl hd kk
    · rw [ir_ce_r h (by omega)] at h3; exact va_alen hx hb hE.1 hR.1 (a - 1) 7 h3 (ty := .object "WellQueue$Tray") rfl rfl hd kk
  · rw [ir_ro_ext ha]
    rw [ir_kd_ext ha] at g1
    obtain ⟨m1, m2, -⟩ := hR.2.2.2.2.2 a (by omega)
    rw [ir_ln_ext ha, m2] at kk
    split at g1
    · omega
    · split at g1
      · obtain ⟨j, rfl⟩ : ∃ j, a = 1100000 + j := ⟨a - 1100000, by omega⟩
        exact va_tlen hx hb (hE.2.1 j (by omega)).1.2.2.2.1 hS rfl hd kk
      · split at g1
        · rename_i ha2
          rcases ha2 with rfl | rfl
          · exact va_tlen hx hb hE.2.2.2.2.2.2.1 hS rfl hd kk
          · exact va_tlen hx hb hE.2.2.2.2.2.1 hS rfl hd kk
        · omega
/-! stores -/
theorem ir_sI_o {a b k : Nat} {v : Int32} (h : b ≠ a) : (ir_sI M a k v).1 b = M.1 b := if_neg h
theorem ir_sI_s {a k : Nat} {v : Int32} : (ir_sI M a k v).1 a = upd (M.1 a) k v := if_pos rfl
theorem ir_sJ_o {a b k : Nat} {v : Int64} (h : b ≠ a) : (ir_sJ M a k v).2.1 b = M.2.1 b := if_neg h
theorem ir_sJ_s {a k : Nat} {v : Int64} : (ir_sJ M a k v).2.1 a = vp_updL (M.2.1 a) k v := if_pos rfl
theorem ir_sP_o {a b k v : Nat} (h : b ≠ a) : (ir_sP M a k v).2.2.1 b = M.2.2.1 b := if_neg h
theorem ir_sP_s {a k v : Nat} : (ir_sP M a k v).2.2.1 a = fun j => if j = k then v else M.2.2.1 a j := if_pos rfl
theorem ir_gw_inv {a c0 : Nat} {i : Int32} (h : ir_gw M a c0 i = true) : a < 1000000 ∧ ir_kd a = c0 ∧ (a < ir_nx M ∨ 1000000 ≤ a) ∧ vp_in i (ir_ln M a) := by
  obtain ⟨h1, h2⟩ := ir_and h
  obtain ⟨h3, h4⟩ := ir_and h1
  obtain ⟨h5, h6⟩ := ir_gk_inv h3
  exact ⟨ir_blt h2, h5, h6, ir_inb_inv h4⟩
theorem ir_s_iast (hx : p.tables.exec = Jvm.exec) (hb : c.code = ir_co y) (hE : ir_ext w s s.heap) (hR : ir_rep w M H) (hS : va_S (ir_A w) s.heap H locs) {a : Nat} {i v : Int32} (hg : ir_gw M a 100 i = true) (hd : decode (ir_co y) pc = .ok (.iastore, 1))
    (kk : ∀ (H1 : Heap) (locs1 : List Loc), ir_rep w (ir_sI M a i.toNatClampNeg v) H1 → va_S (ir_A w) s.heap H1 locs1 → W p l e R s m args below meth c H1 locs1 cells slots Q (F0 m (pc + 1) ls rest)) : W p l e R s m args below meth c H locs cells slots Q (F0 m pc ls (.int v :: .int i :: .ref (ir_ro w a) :: rest)) := by
  obtain ⟨ha, hk, hn, hi⟩ := ir_gw_inv hg
  obtain ⟨h1, h2, h3⟩ := ir_own_at hR ha hn (by rw [hk]; decide)
  rw [ir_ce_i (k := 0) hk (by omega) (by omega)] at h3
  rw [ir_ro_own ha]
  refine va_iast hx hb hE.1 hR.1 (ir_wl_D w M _) hS (a - 1) 0 h3 rfl hi hd (fun H1 locs1 hP1 _ hS1 => kk H1 locs1 (ir_rep_set hR h1 h2 rfl (fun b hb => ⟨ir_sI_o hb, rfl, rfl⟩) ?_) hS1)
  rw [ir_ce_i (k := 0) hk (by omega) (by omega), ir_sI_s]
  exact hP1
theorem ir_s_bast (hx : p.tables.exec = Jvm.exec) (hb : c.code = ir_co y) (hE : ir_ext w s s.heap) (hR : ir_rep w M H) (hS : va_S (ir_A w) s.heap H locs) {a : Nat} {i v : Int32} (hg : (ir_gw M a 102 i || ir_gw M a 103 i) = true) (hd : decode (ir_co y) pc = .ok (.bastore, 1))
    (kk : ∀ (H1 : Heap) (locs1 : List Loc), ir_rep w (ir_sI M a i.toNatClampNeg (ir_bst (ir_kd a) v)) H1 → va_S (ir_A w) s.heap H1 locs1 → W p l e R s m args below meth c H1 locs1 cells slots Q (F0 m (pc + 1) ls rest)) : W p l e R s m args below meth c H locs cells slots Q (F0 m pc ls (.int v :: .int i :: .ref (ir_ro w a) :: rest)) := by
  rcases ir_or hg with hg | hg
  · obtain ⟨ha, hk, hn, hi⟩ := ir_gw_inv hg
    obtain ⟨h1, h2, h3⟩ := ir_own_at hR ha hn (by rw [hk]; decide)
    rw [ir_ce_i (k := 2) hk (by omega) (by omega)] at h3
    rw [ir_ro_own ha]
    refine va_bast hx hb hE.1 hR.1 (ir_wl_D w M _) hS (a - 1) 2 h3 rfl hi hd (fun H1 locs1 hP1 _ hS1 => kk H1 locs1 (ir_rep_set hR h1 h2 rfl (fun b hb => ⟨ir_sI_o hb, rfl, rfl⟩) ?_) hS1)
    rw [ir_ce_i (k := 2) hk (by omega) (by omega), ir_sI_s, hk]
    exact hP1
  · obtain ⟨ha, hk, hn, hi⟩ := ir_gw_inv hg
    obtain ⟨h1, h2, h3⟩ := ir_own_at hR ha hn (by rw [hk]; decide)
    rw [ir_ce_i (k := 3) hk (by omega) (by omega)] at h3
    rw [ir_ro_own ha]
    refine va_zast hx hb hE.1 hR.1 (ir_wl_D w M _) hS (a - 1) 3 h3 rfl hi hd (fun H1 locs1 hP1 _ hS1 => kk H1 locs1 (ir_rep_set hR h1 h2 rfl (fun b hb => ⟨ir_sI_o hb, rfl, rfl⟩) ?_) hS1)
    rw [ir_ce_i (k := 3) hk (by omega) (by omega), ir_sI_s, hk]
    exact hP1
theorem ir_s_cast (hx : p.tables.exec = Jvm.exec) (hb : c.code = ir_co y) (hE : ir_ext w s s.heap) (hR : ir_rep w M H) (hS : va_S (ir_A w) s.heap H locs) {a : Nat} {i v : Int32} (hg : ir_gw M a 104 i = true) (hd : decode (ir_co y) pc = .ok (.castore, 1))
    (kk : ∀ (H1 : Heap) (locs1 : List Loc), ir_rep w (ir_sI M a i.toNatClampNeg (vp_nar .char v)) H1 → va_S (ir_A w) s.heap H1 locs1 → W p l e R s m args below meth c H1 locs1 cells slots Q (F0 m (pc + 1) ls rest)) : W p l e R s m args below meth c H locs cells slots Q (F0 m pc ls (.int v :: .int i :: .ref (ir_ro w a) :: rest)) := by
  obtain ⟨ha, hk, hn, hi⟩ := ir_gw_inv hg
  obtain ⟨h1, h2, h3⟩ := ir_own_at hR ha hn (by rw [hk]; decide)
  rw [ir_ce_i (k := 4) hk (by omega) (by omega)] at h3
  rw [ir_ro_own ha]
  refine va_cast hx hb hE.1 hR.1 (ir_wl_D w M _) hS (a - 1) 4 h3 rfl hi hd (fun H1 locs1 hP1 _ hS1 => kk H1 locs1 (ir_rep_set hR h1 h2 rfl (fun b hb => ⟨ir_sI_o hb, rfl, rfl⟩) ?_) hS1)
  rw [ir_ce_i (k := 4) hk (by omega) (by omega), ir_sI_s]
  exact hP1
theorem ir_s_last (hx : p.tables.exec = Jvm.exec) (hb : c.code = ir_co y) (hE : ir_ext w s s.heap) (hR : ir_rep w M H) (hS : va_S (ir_A w) s.heap H locs) {a : Nat} {i : Int32} {v : Int64} (hg : ir_gw M a 101 i = true) (hd : decode (ir_co y) pc = .ok (.lastore, 1))
    (kk : ∀ (H1 : Heap) (locs1 : List Loc), ir_rep w (ir_sJ M a i.toNatClampNeg v) H1 → va_S (ir_A w) s.heap H1 locs1 → W p l e R s m args below meth c H1 locs1 cells slots Q (F0 m (pc + 1) ls rest)) : W p l e R s m args below meth c H locs cells slots Q (F0 m pc ls (.long v :: .int i :: .ref (ir_ro w a) :: rest)) := by
  obtain ⟨ha, hk, hn, hi⟩ := ir_gw_inv hg
  obtain ⟨h1, h2, h3⟩ := ir_own_at hR ha hn (by rw [hk]; decide)
  rw [ir_ce_l hk] at h3
  rw [ir_ro_own ha]
  refine va_last hx hb hE.1 hR.1 (ir_wl_D w M _) hS (a - 1) 1 h3 rfl hi hd (fun H1 locs1 hP1 _ hS1 => kk H1 locs1 (ir_rep_set hR h1 h2 rfl (fun b hb => ⟨rfl, ir_sJ_o hb, rfl⟩) ?_) hS1)
  rw [ir_ce_l hk, ir_sJ_s, ir_ln_own (M := M) ha]
  exact hP1
theorem ir_s_aast (hx : p.tables.exec = Jvm.exec) (hb : c.code = ir_co y) (hE : ir_ext w s s.heap) (hR : ir_rep w M H) (hS : va_S (ir_A w) s.heap H locs) {a v : Nat} {i : Int32} (hg : (((ir_gw M a 105 i && ir_gk M v 8) || (ir_gw M a 106 i && ir_gk M v 5) || (ir_gw M a 107 i && ir_gk M v 10)) && Nat.blt 0 v && Nat.blt v (ir_nx M)) = true) (hd : decode (ir_co y) pc = .ok (.aastore, 1))
    (kk : ∀ (H1 : Heap) (locs1 : List Loc), ir_rep w (ir_sP M a i.toNatClampNeg v) H1 → va_S (ir_A w) s.heap H1 locs1 → W p l e R s m args below meth c H1 locs1 cells slots Q (F0 m (pc + 1) ls rest)) : W p l e R s m args below meth c H locs cells slots Q (F0 m pc ls (.ref (ir_ro w v) :: .int i :: .ref (ir_ro w a) :: rest)) := by
  obtain ⟨hg, h9⟩ := ir_and hg
  obtain ⟨hg, h8⟩ := ir_and hg
  have h9 := ir_blt h9
  have h8 := ir_blt h8
  have hx9 := hR.2.2.1
  have key : ∀ k cc, 5 ≤ k → k ≤ 7 → cc < 50 → (ir_gw M a (100 + k) i && ir_gk M v cc) = true → ∀ r : vw_C, vwCl[cc]? = some r → (ir_tys w)[k]? = some (w.2.2.2.2.1 k, .object r.1) → W p l e R s m args below meth c H locs cells slots Q (F0 m pc ls (.ref (ir_ro w v) :: .int i :: .ref (ir_ro w a) :: rest)) := by
    intro k cc k5 k7 c50 hg r hr ht
    obtain ⟨hg, hv⟩ := ir_and hg
    obtain ⟨ha, hk, hn, hi⟩ := ir_gw_inv hg
    obtain ⟨hvk, hvn⟩ := ir_gk_inv hv
    have hva : v < 1000000 := by omega
    obtain ⟨h1, h2, h3⟩ := ir_own_at hR ha hn (by rw [hk]; omega)
    obtain ⟨v1, v2, v3⟩ := ir_own_at hR hva hvn (by rw [hvk]; omega)
    rw [ir_ce_r hk k5] at h3
    rw [ir_ce_o hvk c50] at v3
    rw [ir_ro_own ha, ir_ro_own hva]
    refine va_astq hx hb hE.1 hR.1 (ir_wl_D w M _) hS (a - 1) k (v - 1) cc h3 ht v3 hr hi hd (fun H1 locs1 hP1 _ hS1 => kk H1 locs1 (ir_rep_set hR h1 h2 rfl (fun b hb => ⟨rfl, rfl, ir_sP_o hb⟩) ?_) hS1)
    rw [ir_ce_r hk k5, ir_sP_s]
    have e1 : (fun j => ir_op w (if j = i.toNatClampNeg then v else M.2.2.1 a j)) = va_up (fun j => ir_op w (M.2.2.1 a j)) i.toNatClampNeg (some (w.1 + v)) := by
      funext j
      unfold va_up
      by_cases hj : j = i.toNatClampNeg
      · rw [if_pos hj, if_pos hj, ir_op, if_neg (by omega), ir_ro_own hva]
      · rw [if_neg hj, if_neg hj]
    rw [e1]
    exact hP1
  rcases ir_or hg with hg | hg
  · rcases ir_or hg with hg | hg
    · exact key 5 8 (by omega) (by omega) (by omega) hg _ rfl rfl
    · exact key 6 5 (by omega) (by omega) (by omega) hg _ rfl rfl
  · exact key 7 10 (by omega) (by omega) (by omega) hg _ rfl rfl
end IRB
