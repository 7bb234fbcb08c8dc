/-! THE INTERPRETER IS SOUND: what it answers, the machine does. First the words of one step, undone. -/
theorem ir_i1_inv {st : List Value} {k : Int32 → List Value → ir_R} {z : (Option Value ⊕ Nat) × ir_M} (h : ir_i1 st k = some z) : ∃ a r, st = .int a :: r ∧ k a r = some z := by
  unfold ir_i1 at h
  split at h
  · exact ⟨_, _, rfl, h⟩
  · exact nomatch h
theorem ir_i2_inv {st : List Value} {k : Int32 → Int32 → List Value → ir_R} {z : (Option Value ⊕ Nat) × ir_M} (h : ir_i2 st k = some z) : ∃ a b r, st = .int b :: .int a :: r ∧ k a b r = some z := by
  unfold ir_i2 at h
  split at h
  · exact ⟨_, _, _, rfl, h⟩
  · exact nomatch h
theorem ir_l1_inv {st : List Value} {k : Int64 → List Value → ir_R} {z : (Option Value ⊕ Nat) × ir_M} (h : ir_l1 st k = some z) : ∃ a r, st = .long a :: r ∧ k a r = some z := by
  unfold ir_l1 at h
  split at h
  · exact ⟨_, _, rfl, h⟩
  · exact nomatch h
theorem ir_l2_inv {st : List Value} {k : Int64 → Int64 → List Value → ir_R} {z : (Option Value ⊕ Nat) × ir_M} (h : ir_l2 st k = some z) : ∃ a b r, st = .long b :: .long a :: r ∧ k a b r = some z := by
  unfold ir_l2 at h
  split at h
  · exact ⟨_, _, _, rfl, h⟩
  · exact nomatch h
theorem ir_li_inv {st : List Value} {k : Int64 → Int32 → List Value → ir_R} {z : (Option Value ⊕ Nat) × ir_M} (h : ir_li st k = some z) : ∃ a b r, st = .int b :: .long a :: r ∧ k a b r = some z := by
  unfold ir_li at h
  split at h
  · exact ⟨_, _, _, rfl, h⟩
  · exact nomatch h
theorem ir_r1_inv {st : List Value} {k : Nat → List Value → ir_R} {z : (Option Value ⊕ Nat) × ir_M} (h : ir_r1 st k = some z) : ∃ a r, st = .ref a :: r ∧ k a r = some z := by
  unfold ir_r1 at h
  split at h
  · exact ⟨_, _, rfl, h⟩
  · exact nomatch h
theorem ir_ri_inv {st : List Value} {k : Nat → Int32 → List Value → ir_R} {z : (Option Value ⊕ Nat) × ir_M} (h : ir_ri st k = some z) : ∃ a i r, st = .int i :: .ref a :: r ∧ k a i r = some z := by
  unfold ir_ri at h
  split at h
  · exact ⟨_, _, _, rfl, h⟩
  · exact nomatch h
theorem ir_rii_inv {st : List Value} {k : Nat → Int32 → Int32 → List Value → ir_R} {z : (Option Value ⊕ Nat) × ir_M} (h : ir_rii st k = some z) : ∃ a i v r, st = .int v :: .int i :: .ref a :: r ∧ k a i v r = some z := by
  unfold ir_rii at h
  split at h
  · exact ⟨_, _, _, _, rfl, h⟩
  · exact nomatch h
theorem ir_ril_inv {st : List Value} {k : Nat → Int32 → Int64 → List Value → ir_R} {z : (Option Value ⊕ Nat) × ir_M} (h : ir_ril st k = some z) : ∃ a i v r, st = .long v :: .int i :: .ref a :: r ∧ k a i v r = some z := by
  unfold ir_ril at h
  split at h
  · exact ⟨_, _, _, _, rfl, h⟩
  · exact nomatch h
theorem ir_rir_inv {st : List Value} {k : Nat → Int32 → Nat → List Value → ir_R} {z : (Option Value ⊕ Nat) × ir_M} (h : ir_rir st k = some z) : ∃ a i v r, st = .ref v :: .int i :: .ref a :: r ∧ k a i v r = some z := by
  unfold ir_rir at h
  split at h
  · exact ⟨_, _, _, _, rfl, h⟩
  · exact nomatch h
theorem ir_ck_inv {b : Bool} {k : ir_R} {z : (Option Value ⊕ Nat) × ir_M} (h : ir_ck b k = some z) : b = true ∧ k = some z := by
  cases b
  · exact nomatch h
  · exact ⟨rfl, h⟩
theorem ir_rm_inv {b : List Value} {k : ir_R} {z : (Option Value ⊕ Nat) × ir_M} (h : ir_rm b k = some z) : (b.map ir_cat).sum ≤ 8 ∧ k = some z := by
  unfold ir_rm at h
  split at h
  · rename_i hb
    exact ⟨Nat.le_of_ble_eq_true hb, h⟩
  · exact nomatch h
theorem ir_ft0_inv {y : Nat} {b : List Value} {k : ir_R} {z : (Option Value ⊕ Nat) × ir_M} (h : ir_ft0 y b k = some z) : (ir_arg b).length ≤ ir_ml y ∧ k = some z := by
  unfold ir_ft0 at h
  split at h
  · rename_i hb
    exact ⟨Nat.le_of_ble_eq_true hb, h⟩
  · exact nomatch h
theorem ir_dI_inv {b : Int32} {k : ir_R} {z : (Option Value ⊕ Nat) × ir_M} (h : ir_dI b k = some z) : ¬ b = 0 ∧ k = some z := by
  unfold ir_dI at h
  split at h
  · exact nomatch h
  · rename_i hb
    exact ⟨of_decide_eq_false hb, h⟩
theorem ir_dJ_inv {b : Int64} {k : ir_R} {z : (Option Value ⊕ Nat) × ir_M} (h : ir_dJ b k = some z) : ¬ b = 0 ∧ k = some z := by
  unfold ir_dJ at h
  split at h
  · exact nomatch h
  · rename_i hb
    exact ⟨of_decide_eq_false hb, h⟩
theorem ir_ld_inv {L : ir_L} {x : List Nat} {v : Value} (h : ir_ld L x = some v) : ∃ i xs, x = i :: xs ∧ ir_nth L i = some (some v) := by
  unfold ir_ld at h
  split at h
  · split at h
    · rename_i hn
      cases h
      exact ⟨_, _, rfl, hn⟩
    · exact nomatch h
  · exact nomatch h
theorem ir_mi_inv {o : Option Value} {k : Int32 → ir_R} {z : (Option Value ⊕ Nat) × ir_M} (h : ir_mi o k = some z) : ∃ v, o = some (.int v) ∧ k v = some z := by
  unfold ir_mi at h
  split at h
  · exact ⟨_, rfl, h⟩
  · exact nomatch h
theorem ir_mj_inv {o : Option Value} {k : Int64 → ir_R} {z : (Option Value ⊕ Nat) × ir_M} (h : ir_mj o k = some z) : ∃ v, o = some (.long v) ∧ k v = some z := by
  unfold ir_mj at h
  split at h
  · exact ⟨_, rfl, h⟩
  · exact nomatch h
theorem ir_mr_inv {o : Option Value} {k : Nat → ir_R} {z : (Option Value ⊕ Nat) × ir_M} (h : ir_mr o k = some z) : ∃ v, o = some (.ref v) ∧ k v = some z := by
  unfold ir_mr at h
  split at h
  · exact ⟨_, rfl, h⟩
  · exact nomatch h
theorem ir_jm_inv {x : List Nat} {k : Nat → ir_R} {z : (Option Value ⊕ Nat) × ir_M} (h : ir_jm x k = some z) : ∃ t xs, x = t :: xs ∧ k t = some z := by
  unfold ir_jm at h
  split at h
  · exact ⟨_, _, rfl, h⟩
  · exact nomatch h
theorem ir_s1_inv {L : ir_L} {x : List Nat} {v : Value} {k : ir_L → ir_R} {z : (Option Value ⊕ Nat) × ir_M} (h : ir_s1 L x v k = some z) : ∃ i xs, x = i :: xs ∧ ir_pt v k i L = some z := by
  unfold ir_s1 at h
  split at h
  · exact ⟨_, _, rfl, h⟩
  · exact nomatch h
theorem ir_s2_inv {L : ir_L} {x : List Nat} {v : Value} {k : ir_L → ir_R} {z : (Option Value ⊕ Nat) × ir_M} (h : ir_s2 L x v k = some z) : ∃ i xs, x = i :: xs ∧ ir_pt2 v k i L = some z := by
  unfold ir_s2 at h
  split at h
  · exact ⟨_, _, rfl, h⟩
  · exact nomatch h
theorem ir_tk_inv : ∀ (n : Nat) (st acc : List Value) (f : List Value → List Value → ir_R) {z : (Option Value ⊕ Nat) × ir_M}, ir_tk n st acc f = some z → ∃ as r, st = as.reverse ++ r ∧ as.length = n ∧ f (as ++ acc) r = some z
  | 0, st, acc, f, z, h => ⟨[], st, rfl, rfl, h⟩
  | n + 1, [], acc, f, z, h => nomatch h
  | n + 1, a :: st, acc, f, z, h => by
    obtain ⟨as, r, h1, h2, h3⟩ := ir_tk_inv n st (a :: acc) f h
    exact ⟨as ++ [a], r, by rw [h1]; simp, by simp [h2], by simpa using h3⟩
theorem ir_d_inv {y pc k n : Nat} {i : Instr} (h : ir_d y pc i k n = true) : decode (ir_co y) pc = .ok (i, k) ∧ n = pc + k := by
  unfold ir_d at h
  rw [Bool.and_eq_true] at h
  exact ⟨of_decide_eq_true h.1, Nat.eq_of_beq_eq_true h.2⟩
theorem ir_and {a b : Bool} (h : (a && b) = true) : a = true ∧ b = true := by rwa [Bool.and_eq_true] at h
theorem ir_beq {a b : Nat} (h : Nat.beq a b = true) : a = b := Nat.eq_of_beq_eq_true h
theorem ir_blt {a b : Nat} (h : Nat.blt a b = true) : a < b := Nat.le_of_ble_eq_true h
theorem ir_hd1_inv {i j : Nat} {xs : List Nat} (h : ir_hd1 (i :: xs) j = true) : i = j := ir_beq h
theorem ir_tg_inv {pc t : Nat} {xs : List Nat} {off : Int} (h : ir_tg pc (t :: xs) off = true) : (pc : Int) + off = (t : Int) := of_decide_eq_true h
theorem ir_i2L_inv {a b : Nat} {l : List (Nat × Nat)} (h : ir_i2L a b l = true) : (a, b) ∈ l := by
  obtain ⟨e, he, h⟩ := List.any_eq_true.mp h
  obtain ⟨h1, h2⟩ := ir_and h
  rw [← ir_beq h1, ← ir_beq h2]
  exact he
theorem ir_i3L_inv {a b c : Nat} {l : List (Nat × Nat × Nat)} (h : ir_i3L a b c l = true) : (a, b, c) ∈ l := by
  obtain ⟨e, he, h⟩ := List.any_eq_true.mp h
  obtain ⟨h1, h⟩ := ir_and h
  obtain ⟨h2, h3⟩ := ir_and h
  rw [← ir_beq h1, ← ir_beq h2, ← ir_beq h3]
  exact he
theorem ir_i4L_inv {a b c d : Nat} {l : List (Nat × Nat × Nat × Nat)} (h : ir_i4L a b c d l = true) : (a, b, c, d) ∈ l := by
  obtain ⟨e, he, h⟩ := List.any_eq_true.mp h
  obtain ⟨h1, h⟩ := ir_and h
  obtain ⟨h2, h⟩ := ir_and h
  obtain ⟨h3, h4⟩ := ir_and h
  rw [← ir_beq h1, ← ir_beq h2, ← ir_beq h3, ← ir_beq h4]
  exact he
theorem ir_elF_inv {o i c k t : Nat} (h : ir_elF o i c k t = true) : ir_FOK o i c k t := by
  unfold ir_elF at h
  split at h
  · rename_i l hl
    obtain ⟨e, he, h⟩ := List.any_eq_true.mp h
    obtain ⟨h2, h⟩ := ir_and h
    obtain ⟨h1, h⟩ := ir_and h
    obtain ⟨h3, h⟩ := ir_and h
    obtain ⟨h4, h5⟩ := ir_and h
    have h9 := ir_f_ok l (ir_nth_mem _ _ _ hl) e he
    rw [← ir_beq h1, ← ir_beq h2, ← ir_beq h3, ← ir_beq h4, ← ir_beq h5]
    exact h9
  · exact nomatch h
theorem ir_elM_inv {o i kd y n rc : Nat} (h : ir_elM o i kd y n rc = true) : ir_mP (o, i, kd, y, n, rc) := by
  unfold ir_elM at h
  split at h
  · rename_i l hl
    obtain ⟨e, he, h⟩ := List.any_eq_true.mp h
    obtain ⟨h2, h⟩ := ir_and h
    obtain ⟨h1, h⟩ := ir_and h
    obtain ⟨h3, h⟩ := ir_and h
    obtain ⟨h4, h⟩ := ir_and h
    obtain ⟨h5, h6⟩ := ir_and h
    have h9 := ir_m_ok l (ir_nth_mem _ _ _ hl) e he
    rw [← ir_beq h1, ← ir_beq h2, ← ir_beq h3, ← ir_beq h4, ← ir_beq h5, ← ir_beq h6]
    exact h9
  · exact nomatch h
/-! values and locals -/
theorem ir_tr_cat {w : ir_Wd} (hc : w.2.2.1.category = 1) (v : Value) : (ir_tr w v).category = v.category := by
  cases v <;> first | rfl | exact hc
theorem ir_sum_cat {w : ir_Wd} (hc : w.2.2.1.category = 1) (st : List Value) : ((st.map (ir_tr w)).map fun v => v.category).sum = (st.map ir_cat).sum := by
  induction st with
  | nil => rfl
  | cons a l ih =>
    rw [List.map_cons, List.map_cons, List.map_cons, List.sum_cons, List.sum_cons, ih, ir_tr_cat hc]
    rfl
theorem ir_ro_own {w : ir_Wd} {a : Nat} (h : a < 1000000) : ir_ro w a = w.1 + a := if_pos h
theorem ir_ro_ext {w : ir_Wd} {a : Nat} (h : ¬ a < 1000000) : ir_ro w a = w.2.1 a := if_neg h
theorem ir_mf_len : ∀ (b : List Bool) (L : ir_L), (ir_mf b L).length = L.length
  | [], _ => rfl
  | true :: _, [] => rfl
  | false :: _, [] => rfl
  | true :: b, _ :: l => congrArg (· + 1) (ir_mf_len b l)
  | false :: b, a :: l => congrArg (· + 1) (ir_mf_len b l)
theorem ir_mf_nth : ∀ (b : List Bool) (L : ir_L) (j : Nat) (v : Value), ir_nth (ir_mf b L) j = some (some v) → ir_nth L j = some (some v)
  | [], _, _, _, h => h
  | true :: _, [], _, _, h => h
  | false :: _, [], _, _, h => h
  | true :: b, _ :: l, 0, v, h => nomatch (Option.some.inj h)
  | true :: b, _ :: l, j + 1, v, h => ir_mf_nth b l j v h
  | false :: b, a :: l, 0, v, h => h
  | false :: b, a :: l, j + 1, v, h => ir_mf_nth b l j v h
theorem ir_lo_mf {w : ir_Wd} {ls : Array Slot} {L : ir_L} (b : List Bool) (h : ir_lo w ls L) : ir_lo w ls (ir_mf b L) :=
  ir_lo_sub (n := L.length) ⟨h.1, h.2.1, h.2.2⟩ (ir_mf_len b L) (fun j v hj => (ir_la_mem w L 0 _).mpr ⟨j, v, ir_mf_nth b L j v hj, by rw [Nat.zero_add]⟩)
theorem ir_lo_st1 {w : ir_Wd} {ls' : Array Slot} {L L' : ir_L} {i : Nat} {v : Value} {u : Value} (hc : w.2.2.1.category = 1) (h' : lv_has ls' L.length ((i, u) :: (ir_la w 0 L).filter (fun q => !(q.1 == i) && !(q.1 + 1 == i && q.2.category == 2)))) (hlen : L'.length = L.length)
    (hu : u = ir_tr w v) (hp : ∀ j x, ir_nth L' j = some (some x) → (j = i ∧ x = v) ∨ (j ≠ i ∧ ir_nth L j = some (some x) ∧ ¬ (j + 1 = i ∧ x.category = 2))) : ir_lo w ls' L' := by
  refine ir_lo_sub h' hlen (fun j x hj => ?_)
  rcases hp j x hj with ⟨rfl, rfl⟩ | ⟨h1, h2, h3⟩
  · rw [hu]; exact List.mem_cons_self
  · refine List.mem_cons_of_mem _ (List.mem_filter.mpr ⟨(ir_la_mem w L 0 _).mpr ⟨j, x, h2, by rw [Nat.zero_add]⟩, ?_⟩)
    dsimp only
    rw [ir_tr_cat hc]
    by_cases h4 : j + 1 = i
    · have : x.category ≠ 2 := fun q => h3 ⟨h4, q⟩
      simp [h1, this]
    · simp [h1, h4]
theorem ir_lo_st2 {w : ir_Wd} {ls' : Array Slot} {L L' : ir_L} {i : Nat} {v : Value} {u : Value} (hc : w.2.2.1.category = 1) (h' : lv_has ls' L.length ((i, u) :: (ir_la w 0 L).filter (fun q => !(q.1 == i) && (!(q.1 == i + 1) && !(q.1 + 1 == i && q.2.category == 2))))) (hlen : L'.length = L.length)
    (hu : u = ir_tr w v) (hp : ∀ j x, ir_nth L' j = some (some x) → (j = i ∧ x = v) ∨ (j ≠ i ∧ j ≠ i + 1 ∧ ir_nth L j = some (some x) ∧ ¬ (j + 1 = i ∧ x.category = 2))) : ir_lo w ls' L' := by
  refine ir_lo_sub h' hlen (fun j x hj => ?_)
  rcases hp j x hj with ⟨rfl, rfl⟩ | ⟨h1, h0, h2, h3⟩
  · rw [hu]; exact List.mem_cons_self
  · refine List.mem_cons_of_mem _ (List.mem_filter.mpr ⟨(ir_la_mem w L 0 _).mpr ⟨j, x, h2, by rw [Nat.zero_add]⟩, ?_⟩)
    dsimp only
    rw [ir_tr_cat hc]
    by_cases h4 : j + 1 = i
    · have : x.category ≠ 2 := fun q => h3 ⟨h4, q⟩
      simp [h1, h0, this]
    · simp [h1, h0, h4]
theorem ir_ms_inv : ∀ (n : Nat) (L : ir_L) (k : ir_L → ir_R) {r : (Option Value ⊕ Nat) × ir_M}, ir_ms k n L = some r → ∃ L', k L' = some r ∧ L'.length = L.length ∧ n < L.length ∧ ∀ j u, ir_nth L' j = some (some u) → j ≠ n ∧ ir_nth L j = some (some u) ∧ ¬ (j + 1 = n ∧ u.category = 2)
  | 0, [], k, r, h => nomatch h
  | 0, a :: l, k, r, h => ⟨_, h, rfl, by simp, fun j u hj => by
      cases j with
      | zero => exact nomatch (Option.some.inj hj)
      | succ j => exact ⟨by omega, hj, by omega⟩⟩
  | 1, [], k, r, h => nomatch h
  | 1, [_], k, r, h => nomatch h
  | 1, a :: b :: l, k, r, h => ⟨_, h, rfl, by simp, fun j u hj => by
      match j with
      | 0 =>
        have ha : ir_kl a = some u := Option.some.inj hj
        cases a with
        | none => exact nomatch ha
        | some x => cases x <;> first | exact nomatch (show (none : Option Value) = some u from ha) | (cases (show some _ = some u from ha); exact ⟨by omega, rfl, fun q => absurd (show (1 : Nat) = 2 from q.2) (by decide)⟩)
      | 1 => exact nomatch (Option.some.inj hj)
      | j + 2 => exact ⟨by omega, hj, by omega⟩⟩
  | n + 2, [], k, r, h => nomatch h
  | n + 2, a :: l, k, r, h => by
      obtain ⟨L', h1, h2, h3, h4⟩ := ir_ms_inv (n + 1) l (fun l' => k (a :: l')) h
      refine ⟨a :: L', h1, by simp [h2], by simp; omega, fun j u hj => ?_⟩
      cases j with
      | zero => exact ⟨by omega, hj, by omega⟩
      | succ j =>
        obtain ⟨q1, q2, q3⟩ := h4 j u hj
        exact ⟨by omega, q2, fun z => q3 ⟨by omega, z.2⟩⟩
/-! the locals at a method's entry -/
theorem ir_arg_cons (a : Value) (l : List Value) : (ir_arg (a :: l)).length = (if a.category = 2 then 2 else 1) + (ir_arg l).length := by
  cases a <;> simp [ir_arg, Value.category] <;> omega
theorem ir_arg_len {w : ir_Wd} (hc : w.2.2.1.category = 1) : ∀ as : List Value, (ir_arg as).length = (lg_sl (as.map (ir_tr w))).length := by
  intro as
  induction as with
  | nil => rfl
  | cons a l ih =>
    have e1 : lg_sl ((a :: l).map (ir_tr w)) = (if (ir_tr w a).category = 2 then [Slot.val (ir_tr w a), .second] else [Slot.val (ir_tr w a)]) ++ lg_sl (l.map (ir_tr w)) := rfl
    rw [e1, List.length_append, ← ih, ir_tr_cat hc, ir_arg_cons]
    by_cases h : a.category = 2
    · simp [h]
    · simp [h]
theorem ir_arg_nth {w : ir_Wd} (hc : w.2.2.1.category = 1) : ∀ (as : List Value) (i j : Nat) (v : Value), ir_nth (ir_arg as) j = some (some v) → (i + j, ir_tr w v) ∈ lv_args i (as.map (ir_tr w)) := by
  intro as
  induction as with
  | nil => intro i j v h; exact nomatch h
  | cons a l ih =>
    intro i j v h
    have e1 : lv_args i ((a :: l).map (ir_tr w)) = (i, ir_tr w a) :: lv_args (if (ir_tr w a).category = 2 then i + 2 else i + 1) (l.map (ir_tr w)) := rfl
    rw [e1, ir_tr_cat hc]
    by_cases h2 : a.category = 2
    · have e2 : ir_arg (a :: l) = some a :: none :: ir_arg l := by
        cases a <;> first | rfl | exact absurd (show (1 : Nat) = 2 from h2) (by decide)
      rw [e2] at h
      rw [if_pos h2]
      match j, h with
      | 0, h => cases Option.some.inj (Option.some.inj h); exact List.mem_cons_self
      | 1, h => exact nomatch (Option.some.inj h)
      | j + 2, h =>
        have := ih (i + 2) j v h
        rw [show i + 2 + j = i + (j + 2) by omega] at this
        exact List.mem_cons_of_mem _ this
    · have e2 : ir_arg (a :: l) = some a :: ir_arg l := by
        cases a <;> first | rfl | exact absurd (show (2 : Nat) = 2 from rfl) h2
      rw [e2] at h
      rw [if_neg h2]
      match j, h with
      | 0, h => cases Option.some.inj (Option.some.inj h); exact List.mem_cons_self
      | j + 1, h =>
        have := ih (i + 1) j v h
        rw [show i + 1 + j = i + (j + 1) by omega] at this
        exact List.mem_cons_of_mem _ this
theorem ir_fill_nth : ∀ (n : Nat) (l : ir_L) (j : Nat) (v : Value), ir_nth (ir_fill n l) j = some (some v) → ir_nth l j = some (some v)
  | 0, _, _, _, h => h
  | n + 1, [], 0, v, h => nomatch (Option.some.inj h)
  | n + 1, [], j + 1, v, h => nomatch (ir_fill_nth n [] j v h)
  | n + 1, a :: l, 0, v, h => h
  | n + 1, a :: l, j + 1, v, h => ir_fill_nth n l j v h
theorem ir_fill_len : ∀ (n : Nat) (l : ir_L), l.length ≤ n → (ir_fill n l).length = n
  | 0, [], _ => rfl
  | 0, _ :: _, h => absurd h (by simp)
  | n + 1, [], _ => congrArg (· + 1) (ir_fill_len n [] (Nat.zero_le _))
  | n + 1, _ :: l, h => congrArg (· + 1) (ir_fill_len n l (Nat.le_of_succ_le_succ h))
theorem ir_en_len {y : Nat} {as : List Value} (h : (ir_arg as).length ≤ ir_ml y) : (ir_en y as).length = ir_ml y := ir_fill_len _ _ h
theorem ir_en_lo {w : ir_Wd} (hc : w.2.2.1.category = 1) {y : Nat} {as : List Value} (h : (ir_arg as).length ≤ ir_ml y) : ir_lo w ((lg_sl (as.map (ir_tr w)) ++ List.replicate (ir_ml y - (lg_sl (as.map (ir_tr w))).length) Slot.unset).toArray) (ir_en y as) := by
  refine ir_lo_sub (lv_entry (as.map (ir_tr w)) (n := ir_ml y) (by rw [← ir_arg_len hc]; exact h)) (ir_en_len h) (fun j v hj => ?_)
  have := ir_arg_nth hc as 0 j v (ir_fill_nth _ _ _ _ hj)
  rwa [Nat.zero_add] at this
