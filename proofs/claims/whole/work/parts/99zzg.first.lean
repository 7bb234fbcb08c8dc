/-! THE FIRST STEP: what holds when the law's loop begins -/
def q_lkb (l : List (Nat × Nat × Nat × Nat)) (x : Nat) (P : Nat → Bool) : Bool := l.all (fun e => Nat.blt e.1 2 || !(Nat.beq e.2.1 x) || P e.2.2.1)
theorem q_lkI_no {x : Nat} {P : Nat → Bool} : ∀ (l : List (Nat × Nat × Nat × Nat)), q_lkb l x P = true → ∀ (y : Nat) (z : Int32), P y = false → q_lkI l x y z = z
  | [], _, _, _, _ => rfl
  | (t, a, k, v) :: l, h, y, z, hy => by
    have h' : ((Nat.blt t 2 || !(Nat.beq a x) || P k) && q_lkb l x P) = true := h
    rw [Bool.and_eq_true] at h'
    have ih := fun z => q_lkI_no l h'.2 y z hy
    match t, h'.1 with
    | 0, _ => exact ih z
    | 1, _ => exact ih z
    | t + 2, h1 =>
      show q_lkI l x y (if x = a then (if y = k then nI v else z) else z) = z
      rw [ih]
      by_cases c : x = a
      · rw [if_pos c]
        by_cases c2 : y = k
        · rw [← c2, hy, ← c, show Nat.beq x x = true from Nat.beq_refl x, show Nat.blt (t + 2) 2 = false from by
            cases hb : Nat.blt (t + 2) 2 with
            | false => rfl
            | true => exact absurd (Nat.le_of_ble_eq_true hb) (by omega)] at h1
          exact nomatch h1
        · rw [if_neg c2]
      · rw [if_neg c]
section FS
variable {L : Nat} {xs : Nat → Int32}
theorem q_f0 {x y : Nat} (hx : x < 1000000) : ir_I (q_run q_AL (ir_M0 L xs)) x y = q_lkI q_AL x y 0 := by
  show (q_run q_AL (ir_M0 L xs)).1 x y = _
  rw [q_run_I, show (ir_M0 L xs).1 x y = 0 from if_pos hx]
theorem q_v4 : ∀ k, k < 7 → q_lkI q_AL 4 k 0 = if k = 4 then 1 else 0 := by decide +kernel
theorem q_v7 : q_lkI q_AL 7 0 0 = 0 ∧ q_lkI q_AL 3 2 0 = 0 ∧ q_lkI q_AL 3 3 0 = 0 ∧ q_lkI q_AL 121 0 0 = 0 ∧ q_lkI q_AL 1 1 0 = 0 ∧ q_lkI q_AL 412 6 0 = 0 ∧ q_lkI q_AL 1 2 0 = q_lkI q_AL 412 14 0 ∧ q_lkI q_AL 1 3 0 = q_lkI q_AL 412 15 0 := by decide +kernel
theorem q_v12 : ∀ k, k < 4 → q_lkI q_AL 12 k 0 = 0 := by decide +kernel
theorem q_v19 : ∀ x, x < 12 → q_lkI q_AL (19 + 6 * x) 2 0 = 0 := by decide +kernel
theorem q_v98 : ∀ i, i < 3 → q_lkI q_AL 98 i 0 = 0 ∧ q_lkI q_AL 416 i 0 = 0 := by decide +kernel
theorem q_v404 : ∀ i, i < 4 → q_lkI q_AL (404 + 2 * i) 0 0 = 1 ∧ q_lkI q_AL 433 i 0 = -1 := by decide +kernel
theorem q_v115 : ∀ k, k < 118 → q_lkI q_AL 115 k 0 = (ir_byt 0).getD k 0 := by decide +kernel
theorem q_v413 : q_lkb q_AL 413 (fun k => Nat.beq k 3) = true ∧ q_lkI q_AL 413 3 0 = 1 := by decide +kernel
theorem q_vcn : q_cnt q_AL ≤ 500 ∧ q_sum q_AL ≤ 100000 ∧ q_own q_AL = true := by decide +kernel
theorem q_first : q_Iv L xs 0 (q_run q_AL (ir_M0 L xs)) := by
  obtain ⟨M, eM⟩ : ∃ X, X = q_run q_AL (ir_M0 L xs) := ⟨_, rfl⟩
  have f : ∀ x y, x < 1000000 → ir_I M x y = q_lkI q_AL x y 0 := fun x y hx => by rw [eM]; exact q_f0 hx
  have hp : q_PI M := by rw [eM]; exact q_PI0 rfl
  have hX : q_X L xs M := by
    rw [eM]
    refine q_X_run q_AL _ q_vcn.2.2 (fun a ha => ⟨funext fun j => if_neg (by omega), funext fun j => if_neg (by omega), funext fun j => if_neg (by omega)⟩)
  have hK : ∀ k, M.1 413 k = if k = 3 then 1 else 0 := fun k => by
    show ir_I M 413 k = _
    rw [f 413 k (by decide)]
    by_cases c : k = 3
    · rw [c, q_v413.2]; rfl
    · rw [if_neg c]
      exact q_lkI_no q_AL q_v413.1 k 0 (by
        cases hb : Nat.beq k 3 with
        | false => rfl
        | true => exact absurd (Nat.eq_of_beq_eq_true hb) c)
  have k0 : ∀ k, k ≠ 3 → M.1 413 k = 0 := fun k hk => by rw [hK, if_neg hk]
  have k3 : M.1 413 3 = nI 1 := by rw [hK]; rfl
  have dn : k_n (M.1 413) = 0 := by unfold k_n; rw [k0 2 (by decide)]; rfl
  have dg : k_g (M.1 413) = 0 := by unfold k_g; rw [k0 1 (by decide)]; rfl
  have dm : k_m (M.1 413) = 0 := by unfold k_m; rw [k0 9 (by decide)]; rfl
  have dw : k_w (M.1 413) = 0 := by unfold k_w; rw [k0 44 (by decide)]; rfl
  have dy : k_y (M.1 413) = 1 := by unfold k_y; rw [k3]; rfl
  have da : k_na (M.1 413) = 0 := by unfold k_na; rw [k0 6 (by decide)]; rfl
  have dd : k_nd (M.1 413) = 0 := by unfold k_nd; rw [k0 8 (by decide)]; rfl
  have no : ∀ {i : Nat} {P : Prop}, i < 0 → P := fun h => absurd h (Nat.not_lt_zero _)
  have wf : k_wf (M.1 413) := by
    refine ⟨⟨⟨by rw [dg]; exact k0 1 (by decide), by rw [dg]; decide, by rw [dn]; exact k0 2 (by decide), by rw [dn]; decide, by rw [dy]; exact k3, by rw [dy]; decide, by rw [dy]; decide, Or.inl (k0 5 (by decide)), ⟨0, by decide, k0 7 (by decide), fun i hi => no hi, fun i hi => ⟨[], by rw [Nat.le_zero.mp hi]; rfl, by decide⟩, Or.inl rfl⟩⟩, by rw [dm]; exact k0 9 (by decide), by rw [dm]; exact Nat.zero_le _, fun i hi => ?_, fun i hi => ?_, fun i j hi hj _ => ?_, fun i hi => ?_, fun i hi => ?_, Or.inl (k0 43 (by decide)), by rw [dw]; exact k0 44 (by decide), by rw [dw]; decide, fun i hi => ?_⟩, ⟨by rw [dd]; exact k0 8 (by decide), by rw [dd]; decide, fun i hi => ?_⟩, ⟨by rw [da]; exact k0 6 (by decide), by rw [da]; decide, fun i hi => ?_⟩, 0, by decide, k0 4 (by decide), fun k h1 h2 => ?_, fun k hk => k0 k (by omega)⟩
    · rw [dm] at hi; exact no hi
    · rw [dm] at hi; exact no hi
    · rw [dm] at hi; exact no hi
    · rw [dn] at hi; exact no hi
    · rw [dn] at hi; exact no hi
    · rw [dw] at hi; exact no hi
    · rw [dd] at hi; exact no hi
    · rw [da] at hi; exact no hi
    · rw [k0 k (by omega)]; decide +kernel
  have s4 : ∀ k, k < 7 → ir_I M 4 k = if k = 4 then 1 else 0 := fun k hk => (f 4 k (by decide)).trans (q_v4 k hk)
  have s12 : ∀ k, k < 4 → ir_I M 12 k = 0 := fun k hk => (f 12 k (by decide)).trans (q_v12 k hk)
  have sc : c_sc M 3 (M.1 413) := by
    refine ⟨⟨?_, ?_, ?_, ?_, ?_, ?_, ?_, fun p hp => ?_, fun p g hp hg => ?_, fun p q hp hq => ?_, ?_, fun i hi => ?_⟩, fun p hp => ?_, ⟨?_, ?_, ?_, ?_, fun i hi => ?_, fun p hp => ?_, fun p hp => ?_, fun p hp => ?_, fun i hi => ?_⟩, ?_, 0, by decide, ?_, fun i hi => ?_, fun x hx => Or.inl ?_⟩
    · rw [k0 0 (by decide)]; exact s4 0 (by decide)
    · rw [k0 1 (by decide)]; exact s4 1 (by decide)
    · rw [k0 2 (by decide)]; exact s4 2 (by decide)
    · rw [k0 6 (by decide)]; exact s4 3 (by decide)
    · rw [k3]; exact s4 4 (by decide)
    · rw [k0 4 (by decide)]; exact s4 5 (by decide)
    · rw [k0 5 (by decide)]; exact s4 6 (by decide)
    · rw [dn] at hp; exact no hp
    · rw [dn] at hp; exact no hp
    · rw [dn] at hp; exact no hp
    · rw [k0 7 (by decide)]; exact (f 7 0 (by decide)).trans q_v7.1
    · rw [k0 7 (by decide)] at hi; exact no hi
    · rw [dn] at hp; exact no hp
    · rw [k0 9 (by decide)]; exact s12 0 (by decide)
    · rw [k0 42 (by decide)]; exact s12 1 (by decide)
    · rw [k0 43 (by decide)]; exact s12 2 (by decide)
    · rw [k0 44 (by decide)]; exact s12 3 (by decide)
    · rw [dm] at hi; exact no hi
    · rw [dn] at hp; exact no hp
    · rw [dn] at hp; exact no hp
    · rw [dn] at hp; exact no hp
    · rw [dw] at hi; exact no hi
    · rw [k0 8 (by decide)]; exact (f 3 2 (by decide)).trans q_v7.2.1
    · exact (f 3 3 (by decide)).trans q_v7.2.2.1
    · rw [dd] at hi; exact no hi
    · rw [f _ 2 (by omega)]; exact q_v19 x hx
  rw [← eM]
  refine ⟨hp, hX, ?_, ?_, ⟨wf, sc⟩, ⟨fun i hi => Or.inl ⟨?_, ?_⟩, fun i hi => Or.inl ⟨?_, ?_⟩, ⟨0, by decide, ?_, ?_, fun k hk => no hk⟩, ?_, ?_, fun k hk => ?_⟩, Or.inl ?_⟩
  · rw [eM, q_run_nc]
    have := q_vcn.1
    show 0 + q_cnt q_AL ≤ 500 + 0
    omega
  · rw [eM, q_run_ns]
    have := q_vcn.2.1
    show 0 + q_sum q_AL ≤ 100000 + 6 * 0
    omega
  · rw [f 98 i (by decide)]; exact (q_v98 i hi).1
  · rw [f 416 i (by decide)]; exact (q_v98 i hi).2
  · rw [f _ 0 (by omega)]; exact (q_v404 i hi).1
  · rw [f 433 i (by decide)]; exact (q_v404 i hi).2
  · exact (f 1 1 (by decide)).trans q_v7.2.2.2.2.1
  · exact (f 412 6 (by decide)).trans q_v7.2.2.2.2.2.1
  · rw [f 1 2 (by decide), f 412 14 (by decide)]; exact q_v7.2.2.2.2.2.2.1
  · rw [f 1 3 (by decide), f 412 15 (by decide)]; exact q_v7.2.2.2.2.2.2.2
  · rw [f 115 k (by decide)]; exact q_v115 k hk
  · exact (f 121 0 (by decide)).trans q_v7.2.2.2.1
end FS
