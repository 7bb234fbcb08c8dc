/-! THE LAW OF ASKING, as a function of known: its steps, worked off over a stack. -/
def k_wt (K : Nat → Int32) (p : Nat) (g : Int32) : Int32 := if g = -1 then 0 else K (61 + 6 * p + g.toNatClampNeg)
def k_wd (K : Nat → Int32) (p : Nat) (g pl : Int32) (w : Nat) : Int32 := match w with
  | 0 => g
  | 1 => k_wt K p g
  | 2 => K (53 + p)
  | 3 => K (26 + p)
  | 4 => pl
  | 5 => K 9 - 1 - pl
  | 6 => K (34 + p)
  | _ => K 42 - K 42 / 10 * 10
def k_bd (v : Int64) : Int32 := (ir_mxl (-1000000 : Int64) (ir_mnl (1000000 : Int64) v)).toInt32
def k_dn (s : Nat) (a b : Int32) : Int32 :=
  if s = 10 then k_bd (a.toInt64 + b.toInt64) else if s = 11 then k_bd (a.toInt64 - b.toInt64) else if s = 12 then k_bd (a.toInt64 * b.toInt64)
  else if s = 13 then (if a = b then 1 else 0) else if s = 14 then (if a < b then 1 else 0) else if s = 15 then (if b < a then 1 else 0)
  else if s = 16 then (if 0 < lg_cmp (a.toInt64 + b.toInt64) 1 then 1 else 0) else (if 0 < lg_cmp (a.toInt64 + b.toInt64) 0 then 1 else 0)
def k_stp (wd : Nat → Int32) (s : Nat) (l : List Int32) : List Int32 :=
  if 1000 ≤ s then nI (s - 1000) :: l else if 100 ≤ s then wd (s - 100) :: l
  else if s = 18 then (match l with
    | x :: r => (1 - x) :: r
    | [] => [])
  else (match l with
    | b :: a :: r => k_dn s a b :: r
    | _ => l)
def k_sp (K : Nat → Int32) (i : Nat) : Nat := (K (717 + i)).toNatClampNeg
def k_ev (K : Nat → Int32) (wd : Nat → Int32) : Nat → List Int32
  | 0 => []
  | n + 1 => k_stp wd (k_sp K n) (k_ev K wd n)
/-- what stands on the stack: true: 0 or 1 -/
def k_ty (s : Nat) (l : List Bool) : Option (List Bool) :=
  if 100 ≤ s then (if s < 2000 then (if s < 108 ∨ 1000 ≤ s then some (false :: l) else none) else none)
  else if s = 18 then (match l with
    | true :: r => some (true :: r)
    | _ => none)
  else if s = 16 ∨ s = 17 then (match l with
    | true :: true :: r => some (true :: r)
    | _ => none)
  else if s = 13 ∨ s = 14 ∨ s = 15 then (match l with
    | false :: false :: r => some (true :: r)
    | _ => none)
  else if s = 10 ∨ s = 11 ∨ s = 12 then (match l with
    | false :: false :: r => some (false :: r)
    | _ => none)
  else none
def k_tys (K : Nat → Int32) : Nat → Option (List Bool)
  | 0 => some []
  | n + 1 => (match k_tys K n with
    | some l => k_ty (k_sp K n) l
    | none => none)
/-- the law's steps are as a reader lays them -/
def k_wfL (K : Nat → Int32) : Prop := ∃ n, n ≤ 900 ∧ K 7 = nI n ∧ (∀ i, i < n → K (717 + i) = nI (k_sp K i)) ∧ (∀ i, i ≤ n → ∃ t, k_tys K i = some t ∧ t.length ≤ 60) ∧ (n = 0 ∨ k_tys K n = some [true])
def k_al (K : Nat → Int32) (p : Nat) (g pl : Int32) : Bool := match k_ev K (k_wd K p g pl) (K 7).toNatClampNeg with
  | [] => true
  | [x] => decide (x = 1)
  | _ => false
/-- values and their kinds -/
def k_fit : List Int32 → List Bool → Prop
  | [], [] => True
  | x :: r, b :: t => (b = true → x = 0 ∨ x = 1) ∧ k_fit r t
  | _, _ => False
theorem k_fit_len : ∀ {l : List Int32} {t : List Bool}, k_fit l t → l.length = t.length
  | [], [], _ => rfl
  | _ :: _, _ :: _, h => congrArg (· + 1) (k_fit_len h.2)
  | [], _ :: _, h => h.elim
  | _ :: _, [], h => h.elim
theorem k_01 {c : Prop} {i : Decidable c} : (@ite Int32 c i 1 0) = 0 ∨ (@ite Int32 c i 1 0) = 1 := by
  by_cases h : c
  · exact Or.inr (if_pos h)
  · exact Or.inl (if_neg h)
theorem k_ty_inv {s : Nat} {l t : List Bool} (h : k_ty s l = some t) :
    (100 ≤ s ∧ s < 2000 ∧ (s < 108 ∨ 1000 ≤ s) ∧ t = false :: l) ∨ (s = 18 ∧ ∃ r, l = true :: r ∧ t = true :: r) ∨ ((s = 16 ∨ s = 17) ∧ ∃ r, l = true :: true :: r ∧ t = true :: r) ∨ ((s = 13 ∨ s = 14 ∨ s = 15) ∧ ∃ r, l = false :: false :: r ∧ t = true :: r) ∨ ((s = 10 ∨ s = 11 ∨ s = 12) ∧ ∃ r, l = false :: false :: r ∧ t = false :: r) := by
  unfold k_ty at h
  split at h
  · split at h
    · split at h
      · exact Or.inl ⟨by assumption, by assumption, by assumption, (Option.some.inj h).symm⟩
      · exact nomatch h
    · exact nomatch h
  · split at h
    · split at h
      · exact Or.inr (Or.inl ⟨by assumption, _, rfl, (Option.some.inj h).symm⟩)
      · exact nomatch h
    · split at h
      · split at h
        · exact Or.inr (Or.inr (Or.inl ⟨by assumption, _, rfl, (Option.some.inj h).symm⟩))
        · exact nomatch h
      · split at h
        · split at h
          · exact Or.inr (Or.inr (Or.inr (Or.inl ⟨by assumption, _, rfl, (Option.some.inj h).symm⟩)))
          · exact nomatch h
        · split at h
          · split at h
            · exact Or.inr (Or.inr (Or.inr (Or.inr ⟨by assumption, _, rfl, (Option.some.inj h).symm⟩)))
            · exact nomatch h
          · exact nomatch h
theorem k_fit_step {wd : Nat → Int32} {s : Nat} {l : List Int32} {t t' : List Bool} (h : k_fit l t) (ht : k_ty s t = some t') : k_fit (k_stp wd s l) t' := by
  rcases k_ty_inv ht with ⟨h1, h2, h3, rfl⟩ | ⟨rfl, r, rfl, rfl⟩ | ⟨hs, r, rfl, rfl⟩ | ⟨hs, r, rfl, rfl⟩ | ⟨hs, r, rfl, rfl⟩
  · unfold k_stp
    by_cases q : 1000 ≤ s
    · rw [if_pos q]
      exact ⟨(fun w => nomatch w), h⟩
    · rw [if_neg q, if_pos h1]
      exact ⟨(fun w => nomatch w), h⟩
  · match l, h with
    | x :: l', h =>
      refine ⟨fun _ => ?_, h.2⟩
      rcases h.1 rfl with rfl | rfl
      · exact Or.inr (by decide)
      · exact Or.inl (by decide)
  · match l, h with
    | b :: a :: l', h =>
      have e1 : k_stp wd s (b :: a :: l') = k_dn s a b :: l' := by
        unfold k_stp
        rw [if_neg (by omega), if_neg (by omega), if_neg (by omega)]
      rw [e1]
      refine ⟨fun _ => ?_, h.2.2⟩
      unfold k_dn
      rw [if_neg (by omega), if_neg (by omega), if_neg (by omega), if_neg (by omega), if_neg (by omega), if_neg (by omega)]
      rcases hs with rfl | rfl
      · exact k_01
      · exact k_01
  · match l, h with
    | b :: a :: l', h =>
      have e1 : k_stp wd s (b :: a :: l') = k_dn s a b :: l' := by
        unfold k_stp
        rw [if_neg (by omega), if_neg (by omega), if_neg (by omega)]
      rw [e1]
      refine ⟨fun _ => ?_, h.2.2⟩
      unfold k_dn
      rw [if_neg (by omega), if_neg (by omega), if_neg (by omega)]
      rcases hs with rfl | rfl | rfl
      · exact k_01
      · exact k_01
      · exact k_01
  · match l, h with
    | b :: a :: l', h =>
      have e1 : k_stp wd s (b :: a :: l') = k_dn s a b :: l' := by
        unfold k_stp
        rw [if_neg (by omega), if_neg (by omega), if_neg (by omega)]
      rw [e1]
      exact ⟨(fun w => nomatch w), h.2.2⟩
theorem k_fit_ev {K wd : Nat → Int32} : ∀ (n : Nat) {t : List Bool}, k_tys K n = some t → k_fit (k_ev K wd n) t
  | 0, t, h => by cases (Option.some.inj h); trivial
  | n + 1, t, h => by
    have h' : (match k_tys K n with | some l => k_ty (k_sp K n) l | none => none) = some t := h
    cases hq : k_tys K n with
    | none => rw [hq] at h'; exact nomatch h'
    | some l =>
      rw [hq] at h'
      exact k_fit_step (k_fit_ev n hq) h'
/-- a stack in an array -/
def k_stk (f : Nat → Int32) : List Int32 → Prop
  | [] => True
  | x :: r => f r.length = x ∧ k_stk f r
theorem k_stk_upd {f : Nat → Int32} {k : Nat} {v : Int32} : ∀ {l : List Int32}, k_stk f l → l.length ≤ k → k_stk (upd f k v) l
  | [], _, _ => trivial
  | x :: r, h, hk => ⟨(if_neg (by simp only [List.length_cons] at hk; omega)).trans h.1, k_stk_upd h.2 (by simp only [List.length_cons] at hk; omega)⟩
theorem k_stk_push {f : Nat → Int32} {v : Int32} {l : List Int32} (h : k_stk f l) : k_stk (upd f l.length v) (v :: l) := ⟨if_pos rfl, k_stk_upd h (Nat.le_refl _)⟩
