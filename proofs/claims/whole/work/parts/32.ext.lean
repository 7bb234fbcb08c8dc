/-! WHAT LAY THERE BEFORE: the tables, the String constants, a few statics, the script. It holds at every state that a call starts from. -/
def ir_tys (w : ir_Wd) : List (ClassId × FieldType) := [(w.2.2.2.2.1 0, .int), (w.2.2.2.2.1 1, .long), (w.2.2.2.2.1 2, .byte), (w.2.2.2.2.1 3, .boolean), (w.2.2.2.2.1 4, .char), (w.2.2.2.2.1 5, .object "WellQueue$State"), (w.2.2.2.2.1 6, .object "WellQueue$Scene"), (w.2.2.2.2.1 7, .object "WellQueue$Tray")]
def ir_sto (w : ir_Wd) (U : State) (H : Heap) (i : Nat) : Prop :=
  va_O "java/lang/String" (w.2.1 (1000000 + i)) (ir_A w) U H ∧ va_OF "java/lang/String" "coder" "B" (.int 0) (w.2.1 (1000000 + i)) (ir_A w) U H ∧ va_OF "java/lang/String" "value" "[B" (.ref (w.2.1 (1100000 + i))) (w.2.1 (1000000 + i)) (ir_A w) U H ∧
  va_T .byte (w.2.1 (1100000 + i)) (w.2.2.2.2.2.2.1 (1100000 + i) 0).toInt.toNat (fun j => .int (w.2.2.2.2.2.1 (1100000 + i) j)) (ir_A w) U H ∧ w.2.2.2.2.2.2.2.1 (1000000 + i) 0 = 1100000 + i ∧ w.2.2.2.2.2.1 (1000000 + i) 1 = 0
def ir_str (i : Nat) : Nat × Nat × String := match ir_nth ir_strs i with
  | some q => q
  | none => (99, 0, "")
/-- pairs of exceptions none of which is the other -/
def ir_exn (e : Nat) : String := match e with
  | 1 => "java/util/NoSuchElementException"
  | 2 => "java/lang/IllegalStateException"
  | 3 => "java/lang/IllegalArgumentException"
  | _ => "java/lang/IndexOutOfBoundsException"
def ir_ext (w : ir_Wd) (U : State) (H : Heap) : Prop :=
  va_K w.2.2.2.1 vwCl (ir_tys w) U ∧ (∀ i, i < 55 → ir_sto w U H i ∧ vk_R (ir_on (ir_str i).1) (ir_str i).2.1 (ir_str i).2.2 (w.2.1 (1000000 + i)) U) ∧
  va_Z "java/lang/String" "COMPACT_STRINGS" "Z" (.int 1) (ir_A w) U H ∧ va_Z "WellQueue$Shares" "ROWS" "[I" (.ref (w.2.1 3000000)) (ir_A w) U H ∧ va_Z "jdk/internal/util/Preconditions" "SIOOBE_FORMATTER" "Ljava/util/function/BiFunction;" w.2.2.1 (ir_A w) U H ∧
  va_T .int (w.2.1 3000000) (w.2.2.2.2.2.2.1 3000000 0).toInt.toNat (fun j => .int (w.2.2.2.2.2.1 3000000 j)) (ir_A w) U H ∧ va_T .int (w.2.1 2000000) (w.2.2.2.2.2.2.1 2000000 0).toInt.toNat (fun j => .int (w.2.2.2.2.2.1 2000000 j)) (ir_A w) U H ∧
  vx_Zq Bundle.tN "UNASSIGNED_STACK" Bundle.steD (ir_A w) U H ∧ vx_Zq Bundle.tN "SUPPRESSED_SENTINEL" Bundle.listD (ir_A w) U H ∧
  (∀ c ∈ ir_NL, va_Nw c U) ∧ (∀ a b, a ≠ b → 1 ≤ a → a ≤ 4 → 1 ≤ b → b ≤ 4 → va_Nc (ir_exn a) (ir_exn b) U) ∧ va_AO "WellQueue$State" U ∧ va_AO "WellQueue$Scene" U ∧ va_AO "WellQueue$Tray" U ∧ w.2.2.1.category = 1
theorem ir_nk_warm {c : Cond} (hc : ir_nk c = true) {s U : State} (hW : s.WarmedH U.vm) (h : va_Nw c s) : va_Nw c U := by
  cases c <;> first | exact va_Nw.warmM hW h | exact va_Nw.warmD hW h | exact va_Nw.warmC hW h | exact absurd hc Bool.false_ne_true
theorem ir_nk_on {c : Cond} (hc : ir_nk c = true) : c.onTables = true := by
  cases c <;> first | rfl | exact absurd hc Bool.false_ne_true
theorem ir_ext_warm {w : ir_Wd} {s U : State} {H : Heap} (hW : s.WarmedH U.vm) (h : ir_ext w s H) : ir_ext w U H := by
  have hv := hW.alike
  obtain ⟨k0, k1, k2, k3, k4, k5, k6, k7, k8, k9, k10, k11, k12, k13, k14⟩ := h
  refine ⟨k0.moved hv, fun i hi => ?_, k2.moved hv, k3.moved hv, k4.moved hv, k5.moved hv, k6.moved hv, k7.moved hv, k8.moved hv, fun c hc => ir_nk_warm (List.mem_filter.mp hc).2 hW (k9 c hc), fun a b q1 q2 q3 q4 q5 => (k10 a b q1 q2 q3 q4 q5).moved hv, k11.moved hv, k12.moved hv, k13.moved hv, k14⟩
  obtain ⟨⟨s1, s2, s3, s4, s5⟩, s6⟩ := k1 i hi
  exact ⟨⟨s1.moved hv, s2.moved hv, s3.moved hv, s4.moved hv, s5⟩, s6.warm hW⟩
theorem ir_ext_same {w : ir_Wd} {s U : State} {H : Heap} (hvm : U.vm = s.vm) (h : ir_ext w s H) : ir_ext w U H := by
  have hv : s.vm.Alike U.vm := by rw [hvm]; exact Vm.Alike.refl _
  obtain ⟨k0, k1, k2, k3, k4, k5, k6, k7, k8, k9, k10, k11, k12, k13, k14⟩ := h
  refine ⟨k0.moved hv, fun i hi => ?_, k2.moved hv, k3.moved hv, k4.moved hv, k5.moved hv, k6.moved hv, k7.moved hv, k8.moved hv, fun c hc => (k9 c hc).same (ir_nk_on (List.mem_filter.mp hc).2) hvm.symm, fun a b q1 q2 q3 q4 q5 => (k10 a b q1 q2 q3 q4 q5).moved hv, k11.moved hv, k12.moved hv, k13.moved hv, k14⟩
  obtain ⟨⟨s1, s2, s3, s4, s5⟩, s6⟩ := k1 i hi
  exact ⟨⟨s1.moved hv, s2.moved hv, s3.moved hv, s4.moved hv, s5⟩, s6.same hvm⟩
theorem ir_ext_kept {w : ir_Wd} {U : State} {H H1 : Heap} (hq : ∀ a : Nat, a < H.size → ¬ ir_A w a → H1[a]? = H[a]?) (h : ir_ext w U H) : ir_ext w U H1 := by
  obtain ⟨k0, k1, k2, k3, k4, k5, k6, k7, k8, k9, k10, k11, k12, k13, k14⟩ := h
  refine ⟨k0, fun i hi => ?_, k2.kept hq, k3.kept hq, k4.kept hq, k5.kept hq, k6.kept hq, k7.kept hq, k8.kept hq, k9, k10, k11, k12, k13, k14⟩
  obtain ⟨⟨s1, s2, s3, s4, s5⟩, s6⟩ := k1 i hi
  exact ⟨⟨s1.kept hq, s2.kept hq, s3.kept hq, s4.kept hq, s5⟩, s6⟩
/-! LOCALS -/
def ir_la (w : ir_Wd) : Nat → ir_L → List (Nat × Value)
  | _, [] => []
  | i, none :: l => ir_la w (i + 1) l
  | i, some v :: l => (i, ir_tr w v) :: ir_la w (i + 1) l
def ir_lo (w : ir_Wd) (ls : Array Slot) (L : ir_L) : Prop := lv_has ls L.length (ir_la w 0 L)
theorem ir_la_mem (w : ir_Wd) : ∀ (L : ir_L) (i : Nat) (q : Nat × Value), q ∈ ir_la w i L ↔ ∃ j v, ir_nth L j = some (some v) ∧ q = (i + j, ir_tr w v)
  | [], i, q => by simp [ir_la, ir_nth]
  | none :: l, i, q => by
    rw [ir_la, ir_la_mem w l (i + 1)]
    constructor
    · rintro ⟨j, v, h1, h2⟩
      exact ⟨j + 1, v, h1, by rw [h2]; congr 1; omega⟩
    · rintro ⟨j, v, h1, h2⟩
      cases j with
      | zero => simp [ir_nth] at h1
      | succ j => exact ⟨j, v, h1, by rw [h2]; congr 1; omega⟩
  | some u :: l, i, q => by
    rw [ir_la, List.mem_cons, ir_la_mem w l (i + 1)]
    constructor
    · rintro (h | ⟨j, v, h1, h2⟩)
      · exact ⟨0, u, rfl, by rw [h]; rfl⟩
      · exact ⟨j + 1, v, h1, by rw [h2]; congr 1; omega⟩
    · rintro ⟨j, v, h1, h2⟩
      cases j with
      | zero =>
        left
        have : u = v := by simpa [ir_nth] using h1
        subst this
        rw [h2]; rfl
      | succ j => exact Or.inr ⟨j, v, h1, by rw [h2]; congr 1; omega⟩
theorem ir_lo_at {w : ir_Wd} {ls : Array Slot} {L : ir_L} (h : ir_lo w ls L) {k : Nat} {v : Value} (hk : ir_nth L k = some (some v)) : ls[k]? = some (.val (ir_tr w v)) :=
  h.2.2 (k, ir_tr w v) ((ir_la_mem w L 0 _).mpr ⟨k, v, hk, by rw [Nat.zero_add]⟩)
theorem ir_lo_sub {w : ir_Wd} {ls : Array Slot} {L : ir_L} {n : Nat} {lv : List (Nat × Value)} (h : lv_has ls n lv) (hn : L.length = n) (hs : ∀ j v, ir_nth L j = some (some v) → (j, ir_tr w v) ∈ lv) : ir_lo w ls L := by
  refine ⟨by rw [hn]; exact h.1, h.2.1, fun q hq => ?_⟩
  obtain ⟨j, v, h1, h2⟩ := (ir_la_mem w L 0 q).mp hq
  rw [Nat.zero_add] at h2
  rw [h2]
  exact h.2.2 _ (hs j v h1)
/-- what comes of a store -/
theorem ir_pt_inv {v : Value} : ∀ (n : Nat) (L : ir_L) (k : ir_L → ir_R) {r : (Option Value ⊕ Nat) × ir_M}, ir_pt v k n L = some r → ∃ L', k L' = some r ∧ L'.length = L.length ∧ n < L.length ∧ ∀ j u, ir_nth L' j = some (some u) → (j = n ∧ u = v) ∨ (j ≠ n ∧ ir_nth L j = some (some u) ∧ ¬ (j + 1 = n ∧ u.category = 2))
  | 0, [], k, r, h => nomatch h
  | 0, a :: l, k, r, h => ⟨_, h, rfl, by simp, fun j u hj => by
      cases j with
      | zero => left; simp [ir_nth] at hj; exact ⟨rfl, hj.symm⟩
      | succ j => right; exact ⟨by omega, hj, by omega⟩⟩
  | 1, [], k, r, h => nomatch h
  | 1, [_], k, r, h => nomatch h
  | 1, a :: b :: l, k, r, h => ⟨_, h, rfl, by simp, fun j u hj => by
      match j with
      | 0 =>
        right
        simp only [ir_nth] at hj
        have ha : ir_kl a = some u := Option.some.inj hj
        refine ⟨by omega, ?_, ?_⟩
        · cases a with
          | none => simp [ir_kl] at ha
          | some x => cases x <;> simp_all [ir_kl, ir_nth]
        · rintro ⟨-, hc⟩
          cases a with
          | none => simp [ir_kl] at ha
          | some x => cases x <;> first | exact nomatch (show (none : Option Value) = some u from ha) | (cases (show some _ = some u from ha); exact absurd (show (1 : Nat) = 2 from hc) (by decide))
      | 1 => left; simp [ir_nth] at hj; exact ⟨rfl, hj.symm⟩
      | j + 2 => right; exact ⟨by omega, hj, by omega⟩⟩
  | n + 2, [], k, r, h => nomatch h
  | n + 2, a :: l, k, r, h => by
      obtain ⟨L', h1, h2, h3, h4⟩ := ir_pt_inv (n + 1) l (fun l' => k (a :: l')) h
      refine ⟨a :: L', h1, by simp [h2], by simp; omega, fun j u hj => ?_⟩
      cases j with
      | zero => right; exact ⟨by omega, hj, by omega⟩
      | succ j =>
        rcases h4 j u hj with ⟨q1, q2⟩ | ⟨q1, q2, q3⟩
        · left; exact ⟨by omega, q2⟩
        · right; exact ⟨by omega, q2, fun z => q3 ⟨by omega, z.2⟩⟩
theorem ir_pt2_inv {v : Value} : ∀ (n : Nat) (L : ir_L) (k : ir_L → ir_R) {r : (Option Value ⊕ Nat) × ir_M}, ir_pt2 v k n L = some r → ∃ L', k L' = some r ∧ L'.length = L.length ∧ n + 1 < L.length ∧ ∀ j u, ir_nth L' j = some (some u) → (j = n ∧ u = v) ∨ (j ≠ n ∧ j ≠ n + 1 ∧ ir_nth L j = some (some u) ∧ ¬ (j + 1 = n ∧ u.category = 2))
  | 0, [], k, r, h => nomatch h
  | 0, [_], k, r, h => nomatch h
  | 0, a :: b :: l, k, r, h => ⟨_, h, rfl, by simp, fun j u hj => by
      match j with
      | 0 => left; simp [ir_nth] at hj; exact ⟨rfl, hj.symm⟩
      | 1 => simp [ir_nth] at hj
      | j + 2 => right; exact ⟨by omega, by omega, hj, by omega⟩⟩
  | 1, [], k, r, h => nomatch h
  | 1, [_], k, r, h => nomatch h
  | 1, [_, _], k, r, h => nomatch h
  | 1, a :: b :: b2 :: l, k, r, h => ⟨_, h, rfl, by simp, fun j u hj => by
      match j with
      | 0 =>
        right
        simp only [ir_nth] at hj
        have ha : ir_kl a = some u := Option.some.inj hj
        refine ⟨by omega, by omega, ?_, ?_⟩
        · cases a with
          | none => simp [ir_kl] at ha
          | some x => cases x <;> simp_all [ir_kl, ir_nth]
        · rintro ⟨-, hc⟩
          cases a with
          | none => simp [ir_kl] at ha
          | some x => cases x <;> first | exact nomatch (show (none : Option Value) = some u from ha) | (cases (show some _ = some u from ha); exact absurd (show (1 : Nat) = 2 from hc) (by decide))
      | 1 => left; simp [ir_nth] at hj; exact ⟨rfl, hj.symm⟩
      | 2 => simp [ir_nth] at hj
      | j + 3 => right; exact ⟨by omega, by omega, hj, by omega⟩⟩
  | n + 2, [], k, r, h => nomatch h
  | n + 2, a :: l, k, r, h => by
      obtain ⟨L', h1, h2, h3, h4⟩ := ir_pt2_inv (n + 1) l (fun l' => k (a :: l')) h
      refine ⟨a :: L', h1, by simp [h2], by simp; omega, fun j u hj => ?_⟩
      cases j with
      | zero => right; exact ⟨by omega, by omega, hj, by omega⟩
      | succ j =>
        rcases h4 j u hj with ⟨q1, q2⟩ | ⟨q1, q2, q3, q4⟩
        · left; exact ⟨by omega, q2⟩
        · right; exact ⟨by omega, by omega, q3, fun z => q4 ⟨by omega, z.2⟩⟩
