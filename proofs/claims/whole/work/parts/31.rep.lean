/-! HOW A MEMORY LIES IN THE HEAP. w: (base, addresses of what lay there before, the formatter's value, class numbers and slots, array classes, what lay there before). -/
abbrev ir_Wd : Type := Nat × (Nat → Nat) × Value × va_G × (Nat → ClassId) × ir_M
def ir_ro (w : ir_Wd) (a : Nat) : Nat := if a < 1000000 then w.1 + a else w.2.1 a
def ir_tr (w : ir_Wd) : Value → Value
  | .ref a => .ref (ir_ro w a)
  | .null => w.2.2.1
  | v => v
def ir_op (w : ir_Wd) (x : Nat) : Option Nat := if x = 0 then none else some (ir_ro w x)
def ir_fv (w : ir_Wd) (M : ir_M) (a k t : Nat) : Value := match t with
  | 1 => .long (ir_J M a k)
  | 2 => va_rf (ir_op w (ir_P M a k))
  | _ => .int (ir_I M a k)
def ir_fs (w : ir_Wd) (M : ir_M) (a c : Nat) : List Value := (ir_ft c).zipIdx.map (fun q => ir_fv w M a q.2 q.1)
def ir_ce (w : ir_Wd) (M : ir_M) (a : Nat) : va_E :=
  if ir_kd a < 50 then .inr (ir_kd a, ir_fs w M a (ir_kd a))
  else if ir_kd a = 101 then .inl (w.2.2.2.2.1 1, ir_ln M a, .inr (.inl (M.2.1 a)))
  else if 105 ≤ ir_kd a then .inl (w.2.2.2.2.1 (ir_kd a - 100), ir_ln M a, .inr (.inr (.inr (.inr (fun i => ir_op w (M.2.2.1 a i))))))
  else .inl (w.2.2.2.2.1 (ir_kd a - 100), ir_ln M a, .inl (M.1 a))
def ir_wl (w : ir_Wd) (M : ir_M) (n : Nat) : va_W := (List.range n).map (fun i => (w.1 + (i + 1), ir_ce w M (i + 1)))
def ir_A (w : ir_Wd) : Nat → Prop := fun q => w.1 + 1 ≤ q
/-- the memory M lies in the heap H -/
def ir_rep (w : ir_Wd) (M : ir_M) (H : Heap) : Prop :=
  va_P w.2.2.2.1 vwCl (ir_wl w M (ir_nx M - 1)) H ∧ 1 ≤ ir_nx M ∧ ir_nx M ≤ 1000000 ∧ w.1 + ir_nx M ≤ H.size ∧
  (∀ a, ir_nx M ≤ a → a < 1000000 → ∀ k, M.1 a k = 0 ∧ M.2.1 a k = 0 ∧ M.2.2.1 a k = 0) ∧ (∀ a, 1000000 ≤ a → M.1 a = w.2.2.2.2.2.1 a ∧ M.2.1 a = w.2.2.2.2.2.2.1 a ∧ M.2.2.1 a = w.2.2.2.2.2.2.2.1 a)
theorem ir_tr_i (w : ir_Wd) (v : Int32) : ir_tr w (.int v) = .int v := rfl
theorem ir_tr_l (w : ir_Wd) (v : Int64) : ir_tr w (.long v) = .long v := rfl
theorem ir_wl_len (w : ir_Wd) (M : ir_M) (n : Nat) : (ir_wl w M n).length = n := by simp [ir_wl]
theorem ir_wl_get (w : ir_Wd) (M : ir_M) {n a : Nat} (h1 : 1 ≤ a) (h2 : a ≤ n) : (ir_wl w M n)[a - 1]? = some (w.1 + a, ir_ce w M a) := by
  have h3 : a - 1 < n := by omega
  have h4 : a - 1 + 1 = a := by omega
  simp [ir_wl, List.getElem?_range h3, h4]
theorem ir_wl_out (w : ir_Wd) (M : ir_M) {n i : Nat} {q : Nat × va_E} (h : (ir_wl w M n)[i]? = some q) : i < n ∧ q = (w.1 + (i + 1), ir_ce w M (i + 1)) := by
  have hl : i < n := by
    have := (List.getElem?_eq_some_iff.mp h).1
    rwa [ir_wl_len] at this
  have h1 := ir_wl_get w M (a := i + 1) (n := n) (by omega) (by omega)
  rw [Nat.add_sub_cancel] at h1
  exact ⟨hl, Option.some.inj (h.symm.trans h1)⟩
theorem ir_wl_D (w : ir_Wd) (M : ir_M) (n : Nat) : va_D (ir_A w) (ir_wl w M n) := by
  refine ⟨fun i j p q hi hj h => ?_, fun k q h => ?_⟩
  · obtain ⟨-, rfl⟩ := ir_wl_out w M hi
    obtain ⟨-, rfl⟩ := ir_wl_out w M hj
    dsimp only at h
    omega
  · obtain ⟨-, rfl⟩ := ir_wl_out w M h
    show w.1 + 1 ≤ w.1 + (k + 1)
    omega
theorem ir_wl_set (w : ir_Wd) (M M' : ir_M) {n a : Nat} (h1 : 1 ≤ a) (h2 : a ≤ n) (hM : ∀ b, b ≠ a → ir_ce w M' b = ir_ce w M b) : (ir_wl w M n).set (a - 1) (w.1 + a, ir_ce w M' a) = ir_wl w M' n := by
  apply List.ext_getElem?
  intro i
  by_cases hi : i = a - 1
  · subst hi
    rw [List.getElem?_set_self (by rw [ir_wl_len]; omega), ir_wl_get w M' h1 h2]
  · rw [List.getElem?_set_ne (by omega)]
    by_cases hl : i < n
    · have g1 := ir_wl_get w M (a := i + 1) (n := n) (by omega) (by omega)
      have g2 := ir_wl_get w M' (a := i + 1) (n := n) (by omega) (by omega)
      rw [Nat.add_sub_cancel] at g1 g2
      rw [g1, g2, hM (i + 1) (by omega)]
    · rw [List.getElem?_eq_none (by rw [ir_wl_len]; omega), List.getElem?_eq_none (by rw [ir_wl_len]; omega)]
/-- a memory that differs at one address of its own only -/
theorem ir_rep_set {w : ir_Wd} {M M' : ir_M} {H H1 : Heap} {a : Nat} (hR : ir_rep w M H) (h1 : 1 ≤ a) (h2 : a < ir_nx M) (hc : M'.2.2.2 = M.2.2.2) (hM : ∀ b, b ≠ a → M'.1 b = M.1 b ∧ M'.2.1 b = M.2.1 b ∧ M'.2.2.1 b = M.2.2.1 b)
    (hP : va_P w.2.2.2.1 vwCl ((ir_wl w M (ir_nx M - 1)).set (a - 1) (w.1 + a, ir_ce w M' a)) H1) : ir_rep w M' H1 := by
  obtain ⟨hp, r1, r2, r3, r5, r6⟩ := hR
  have hnx : ir_nx M' = ir_nx M := by show M'.2.2.2.1 = M.2.2.2.1; rw [hc]
  have hce : ∀ b, b ≠ a → ir_ce w M' b = ir_ce w M b := by
    intro b hb
    obtain ⟨g1, g2, g3⟩ := hM b hb
    have hfs : ∀ c, ir_fs w M' b c = ir_fs w M b c := fun c => by simp only [ir_fs, ir_fv, ir_I, ir_J, ir_P, g1, g2, g3]
    have hln : ir_ln M' b = ir_ln M b := by simp only [ir_ln, g2]
    simp only [ir_ce, hfs, hln, g1, g2, g3]
  rw [ir_wl_set w M M' h1 (by omega) hce] at hP
  have hl : w.1 + ir_nx M ≤ H1.size := by
    have h9 := (hP (ir_nx M - 1 - 1) _ (ir_wl_get w M' (by omega : 1 ≤ ir_nx M - 1) (Nat.le_refl _))).lt
    dsimp only at h9
    omega
  refine ⟨by rw [hnx]; exact hP, by rw [hnx]; exact r1, by rw [hnx]; exact r2, by rw [hnx]; exact hl, ?_, ?_⟩
  · intro b hb hb2 k
    rw [hnx] at hb
    obtain ⟨g1, g2, g3⟩ := hM b (by omega)
    rw [g1, g2, g3]
    exact r5 b hb hb2 k
  · intro b hb
    obtain ⟨g1, g2, g3⟩ := hM b (by omega)
    rw [g1, g2, g3]
    exact r6 b hb
theorem ir_fs_get (w : ir_Wd) (M : ir_M) (a c k : Nat) {t : Nat} (h : (ir_ft c)[k]? = some t) : (ir_fs w M a c)[k]? = some (ir_fv w M a k t) := by
  simp [ir_fs, List.getElem?_map, List.getElem?_zipIdx, h]
theorem ir_fs_len (w : ir_Wd) (M : ir_M) (a c : Nat) : (ir_fs w M a c).length = (ir_ft c).length := by simp [ir_fs]
/-- one field changed -/
theorem ir_fs_set (w : ir_Wd) (M M' : ir_M) (a c k : Nat) {t : Nat} (h : (ir_ft c)[k]? = some t) (ho : ∀ j, j ≠ k → M'.1 a j = M.1 a j ∧ M'.2.1 a j = M.2.1 a j ∧ M'.2.2.1 a j = M.2.2.1 a j) : (ir_fs w M a c).set k (ir_fv w M' a k t) = ir_fs w M' a c := by
  have hk : k < (ir_ft c).length := (List.getElem?_eq_some_iff.mp h).1
  apply List.ext_getElem?
  intro i
  by_cases hi : i = k
  · subst hi
    rw [List.getElem?_set_self (by rw [ir_fs_len]; exact hk), ir_fs_get w M' a c i h]
  · rw [List.getElem?_set_ne (by omega)]
    obtain ⟨g1, g2, g3⟩ := ho i hi
    cases ht : (ir_ft c)[i]? with
    | none =>
      have hl := List.getElem?_eq_none_iff.mp ht
      rw [List.getElem?_eq_none (by rw [ir_fs_len]; exact hl), List.getElem?_eq_none (by rw [ir_fs_len]; exact hl)]
    | some t' => rw [ir_fs_get w M a c i ht, ir_fs_get w M' a c i ht]; simp only [ir_fv, ir_I, ir_J, ir_P, g1, g2, g3]
