/-! COUNTS: cells and slots only grow; while nothing was thrown, addresses grow as the cells do. -/
def ir_gr (M M' : ir_M) : Prop := ir_nc M ≤ ir_nc M' ∧ ir_ns M ≤ ir_ns M' ∧ (ir_ex M' = true → ir_ex M = true ∧ ir_nc M' + ir_nx M = ir_nc M + ir_nx M')
theorem ir_gr.rf (M : ir_M) : ir_gr M M := ⟨Nat.le_refl _, Nat.le_refl _, fun h => ⟨h, rfl⟩⟩
theorem ir_gr.tr {A B C : ir_M} (h : ir_gr A B) (k : ir_gr B C) : ir_gr A C := by
  obtain ⟨a1, a2, a3⟩ := h
  obtain ⟨b1, b2, b3⟩ := k
  refine ⟨by omega, by omega, fun q => ?_⟩
  obtain ⟨c1, c2⟩ := b3 q
  obtain ⟨d1, d2⟩ := a3 c1
  exact ⟨d1, by omega⟩
theorem ir_gr.al (M : ir_M) (k : Nat) : ir_gr M (ir_al M k) := by
  refine ⟨Nat.le_succ _, Nat.le_add_right _ _, fun h => ⟨h, ?_⟩⟩
  show ir_nc M + 1 + ir_nx M = ir_nc M + (ir_nx M + 1)
  omega
theorem ir_gr.th (M : ir_M) : ir_gr M (ir_th M) := ⟨Nat.le_succ _, Nat.le_add_right _ _, fun h => absurd (show false = true from h) Bool.false_ne_true⟩
def ir_up (M : ir_M) (x : ir_R) : Prop := ∀ r, x = some r → ir_gr M r.2
section IRU
variable {M : ir_M}
theorem ir_up.no : ir_up M none := fun _ h => nomatch h
theorem ir_up.so {a : Option Value ⊕ Nat} {M1 : ir_M} (h : ir_gr M M1) : ir_up M (some (a, M1)) := fun _ e => by cases e; exact h
theorem ir_up.ck {b : Bool} {r : ir_R} (h : ir_up M r) : ir_up M (ir_ck b r) := by
  cases b
  · exact ir_up.no
  · exact h
theorem ir_up.rm {b : List Value} {r : ir_R} (h : ir_up M r) : ir_up M (ir_rm b r) := by
  unfold ir_rm
  split
  · exact h
  · exact ir_up.no
theorem ir_up.ft0 {y : Nat} {b : List Value} {r : ir_R} (h : ir_up M r) : ir_up M (ir_ft0 y b r) := by
  unfold ir_ft0
  split
  · exact h
  · exact ir_up.no
theorem ir_up.dI {b : Int32} {r : ir_R} (h : ir_up M r) : ir_up M (ir_dI b r) := by
  unfold ir_dI
  split
  · exact ir_up.no
  · exact h
theorem ir_up.dJ {b : Int64} {r : ir_R} (h : ir_up M r) : ir_up M (ir_dJ b r) := by
  unfold ir_dJ
  split
  · exact ir_up.no
  · exact h
theorem ir_up.pt (v : Value) : ∀ (n : Nat) (L : ir_L) (f : ir_L → ir_R), (∀ L, ir_up M (f L)) → ir_up M (ir_pt v f n L)
  | 0, [], f, h => ir_up.no
  | 0, _ :: l, f, h => h _
  | 1, [], f, h => ir_up.no
  | 1, [_], f, h => ir_up.no
  | 1, _ :: _ :: l, f, h => h _
  | n + 2, [], f, h => ir_up.no
  | n + 2, a :: l, f, h => ir_up.pt v (n + 1) l (fun l' => f (a :: l')) (fun l' => h _)
theorem ir_up.pt2 (v : Value) : ∀ (n : Nat) (L : ir_L) (f : ir_L → ir_R), (∀ L, ir_up M (f L)) → ir_up M (ir_pt2 v f n L)
  | 0, [], f, h => ir_up.no
  | 0, [_], f, h => ir_up.no
  | 0, _ :: _ :: l, f, h => h _
  | 1, [], f, h => ir_up.no
  | 1, [_], f, h => ir_up.no
  | 1, [_, _], f, h => ir_up.no
  | 1, _ :: _ :: _ :: l, f, h => h _
  | n + 2, [], f, h => ir_up.no
  | n + 2, a :: l, f, h => ir_up.pt2 v (n + 1) l (fun l' => f (a :: l')) (fun l' => h _)
theorem ir_up.ms : ∀ (n : Nat) (L : ir_L) (f : ir_L → ir_R), (∀ L, ir_up M (f L)) → ir_up M (ir_ms f n L)
  | 0, [], f, h => ir_up.no
  | 0, _ :: l, f, h => h _
  | 1, [], f, h => ir_up.no
  | 1, [_], f, h => ir_up.no
  | 1, _ :: _ :: l, f, h => h _
  | n + 2, [], f, h => ir_up.no
  | n + 2, a :: l, f, h => ir_up.ms (n + 1) l (fun l' => f (a :: l')) (fun l' => h _)
theorem ir_up.tk : ∀ (n : Nat) (st acc : List Value) (f : List Value → List Value → ir_R), (∀ a r, ir_up M (f a r)) → ir_up M (ir_tk n st acc f)
  | 0, st, acc, f, h => h _ _
  | n + 1, [], acc, f, h => ir_up.no
  | n + 1, a :: st, acc, f, h => ir_up.tk n st (a :: acc) f h
theorem ir_up.swt {k : Nat → ir_R} (hk : ∀ t, ir_up M (k t)) (a : Int32) (d : Nat) : ∀ (w : Nat) (l : List Nat), l.length ≤ w → ir_up M (ir_swt k a d l) := by
  intro w
  induction w with
  | zero =>
    intro l hl
    cases l with
    | nil => exact hk d
    | cons x l => simp at hl
  | succ w ih =>
    intro l hl
    cases l with
    | nil => exact hk d
    | cons x l =>
      cases l with
      | nil => exact hk d
      | cons t l =>
        unfold ir_swt
        split
        · exact hk t
        · exact ih l (by simp only [List.length_cons] at hl; omega)
theorem ir_up.bI {x : ir_R} {k : Int32 → ir_M → ir_R} {h : Nat → ir_M → ir_R} (hx : ir_up M x) (hk : ∀ v M1, ir_gr M M1 → ir_up M (k v M1)) (hh : ∀ v M1, ir_gr M M1 → ir_up M (h v M1)) : ir_up M (ir_bI x k h) := by
  unfold ir_bI
  split
  · exact hk _ _ (hx _ rfl)
  · exact hh _ _ (hx _ rfl)
  · exact ir_up.no
theorem ir_up.bJ {x : ir_R} {k : Int64 → ir_M → ir_R} {h : Nat → ir_M → ir_R} (hx : ir_up M x) (hk : ∀ v M1, ir_gr M M1 → ir_up M (k v M1)) (hh : ∀ v M1, ir_gr M M1 → ir_up M (h v M1)) : ir_up M (ir_bJ x k h) := by
  unfold ir_bJ
  split
  · exact hk _ _ (hx _ rfl)
  · exact hh _ _ (hx _ rfl)
  · exact ir_up.no
theorem ir_up.bP {x : ir_R} {k : Nat → ir_M → ir_R} {h : Nat → ir_M → ir_R} (hx : ir_up M x) (hk : ∀ v M1, ir_gr M M1 → ir_up M (k v M1)) (hh : ∀ v M1, ir_gr M M1 → ir_up M (h v M1)) : ir_up M (ir_bP x k h) := by
  unfold ir_bP
  split
  · exact hk _ _ (hx _ rfl)
  · exact hh _ _ (hx _ rfl)
  · exact ir_up.no
theorem ir_up.bV {x : ir_R} {k : ir_M → ir_R} {h : Nat → ir_M → ir_R} (hx : ir_up M x) (hk : ∀ M1, ir_gr M M1 → ir_up M (k M1)) (hh : ∀ v M1, ir_gr M M1 → ir_up M (h v M1)) : ir_up M (ir_bV x k h) := by
  unfold ir_bV
  split
  · exact hk _ (hx _ rfl)
  · exact hh _ _ (hx _ rfl)
  · exact ir_up.no
theorem ir_up.hn {F : ir_F} {pc : Nat} {L : ir_L} {e : Nat} {M1 : ir_M} (hF : ∀ pc L st, ir_up M (F pc L st M1)) : ∀ hd : ir_H, ir_up M (ir_hn F pc L e M1 hd) := by
  intro hd
  induction hd with
  | nil => exact ir_up.no
  | cons q l ih =>
    obtain ⟨f, t, x, s, p⟩ := q
    unfold ir_hn
    split
    · split
      · exact ir_up.ms _ _ _ (fun L' => hF _ _ _)
      · exact ih
    · exact ih
theorem ir_up.hx {F : ir_F} {pc : Nat} {L : ir_L} {e : Nat} {M1 : ir_M} (hM : ir_gr M M1) (hF : ∀ pc L st, ir_up M (F pc L st M1)) (hd : ir_H) : ir_up M (ir_hx F pc L e M1 hd) := by
  cases hd with
  | nil => exact ir_up.so hM
  | cons q l => exact ir_up.hn hF (q :: l)
theorem ir_up.inv {F : ir_F} {G : ir_G} (hF : ∀ pc L st M1, ir_gr M M1 → ir_up M (F pc L st M1)) (hG : ∀ y as M1, ir_gr M M1 → ir_up M (G y as M1)) (hd : ir_H) (pc n : Nat) (x : List Nat) (L : ir_L) (st : List Value) : ir_up M (ir_inv F G hd pc n x L st M) := by
  have h0 := ir_gr.rf M
  unfold ir_inv
  split
  · unfold ir_r1; split
    · exact ir_up.rm (hF _ _ _ _ h0)
    · exact ir_up.no
  · unfold ir_i2; split
    · exact ir_up.rm (hF _ _ _ _ h0)
    · exact ir_up.no
  · unfold ir_i2; split
    · exact ir_up.rm (hF _ _ _ _ h0)
    · exact ir_up.no
  · unfold ir_i1; split
    · exact ir_up.rm (hF _ _ _ _ h0)
    · exact ir_up.no
  · unfold ir_l2; split
    · exact ir_up.rm (hF _ _ _ _ h0)
    · exact ir_up.no
  · unfold ir_l2; split
    · exact ir_up.rm (hF _ _ _ _ h0)
    · exact ir_up.no
  · split
    · exact ir_up.rm (ir_up.ck (hF _ _ _ _ h0))
    · exact ir_up.no
  · refine ir_up.tk _ _ _ _ (fun as r => ir_up.rm (ir_up.ft0 (ir_up.ck ?_)))
    split
    · exact ir_up.bV (hG _ _ _ h0) (fun _ h => hF _ _ _ _ h) (fun _ _ h => ir_up.hx h (fun _ _ _ => hF _ _ _ _ h) _)
    · exact ir_up.bI (hG _ _ _ h0) (fun _ _ h => hF _ _ _ _ h) (fun _ _ h => ir_up.hx h (fun _ _ _ => hF _ _ _ _ h) _)
    · exact ir_up.bJ (hG _ _ _ h0) (fun _ _ h => hF _ _ _ _ h) (fun _ _ h => ir_up.hx h (fun _ _ _ => hF _ _ _ _ h) _)
    · exact ir_up.bP (hG _ _ _ h0) (fun _ _ h => hF _ _ _ _ h) (fun _ _ h => ir_up.hx h (fun _ _ _ => hF _ _ _ _ h) _)
  · exact ir_up.no
set_option maxHeartbeats 4000000 in
theorem ir_up.step {F : ir_F} {G : ir_G} (hF : ∀ pc L st M1, ir_gr M M1 → ir_up M (F pc L st M1)) (hG : ∀ y as M1, ir_gr M M1 → ir_up M (G y as M1)) (hd : ir_H) (pc : Nat) (e : ir_E) (L : ir_L) (st : List Value) : ir_up M (ir_step F G hd pc e L st M) := by
  obtain ⟨i, n, x, w, dd⟩ := e
  have h0 := ir_gr.rf M
  cases i <;> simp only [ir_step] <;> first
    | exact hF _ _ _ _ h0
    | exact ir_up.no
    | exact ir_up.inv hF hG _ _ _ _ _ _
    | (try simp only [ir_mi, ir_mj, ir_mr, ir_i1, ir_i2, ir_l1, ir_l2, ir_li, ir_r1, ir_ri, ir_rii, ir_ril, ir_rir, ir_s1, ir_s2, ir_jm, ir_gf, ir_pf, ir_nw, ir_na]
       repeat' (first
        | exact hF _ _ _ _ h0
        | exact hF _ _ _ _ (ir_gr.al _ _)
        | exact ir_up.no
        | exact ir_up.so h0
        | exact ir_up.so (ir_gr.th _)
        | refine ir_up.ck ?_
        | refine ir_up.rm ?_
        | refine ir_up.dI ?_
        | refine ir_up.dJ ?_
        | exact ir_up.swt (fun t => hF _ _ _ _ h0) _ _ _ _ (Nat.le_refl _)
        | exact ir_up.pt _ _ _ _ (fun L' => hF _ _ _ _ h0)
        | exact ir_up.pt2 _ _ _ _ (fun L' => hF _ _ _ _ h0)
        | split))
end IRU
theorem ir_ev_gr : ∀ (n d y pc : Nat) (L : ir_L) (st : List Value) (M : ir_M), ir_up M (ir_ev n d y pc L st M) := by
  intro n
  induction n with
  | zero => intro d y pc L st M; exact ir_up.no
  | succ n ih =>
    intro d y pc L st M
    rw [ir_ev]
    cases ir_fetch y pc with
    | none => exact ir_up.no
    | some e =>
      dsimp only
      rw [ir_mk_eq]
      refine ir_up.step (fun pc L st M1 h r hr => h.tr (ih _ _ _ _ _ _ r hr)) (fun y' as M1 h => ?_) _ _ _ _ _
      cases d with
      | zero => exact ir_up.no
      | succ d' => exact fun r hr => h.tr (ih _ _ _ _ _ _ r hr)
