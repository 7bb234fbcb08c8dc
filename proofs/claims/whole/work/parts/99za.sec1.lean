/-! secrets: counting, without a memory -/
def k_su (f : Nat → Nat) : Nat → Nat
  | 0 => 0
  | n + 1 => k_su f n + f n
def k_sj (f : Nat → Int64) : Nat → Int64
  | 0 => 0
  | n + 1 => k_sj f n + f n
def k_cv (c : Nat) : Int32 := nI c + (-2)
def k_f3 (y t u w : Nat) : Int32 := k_fo y (k_cv t) (k_cv u) (k_cv w)
def k_F (m : Nat) (N : Nat → Int32) (j : Nat) (f : Int32) : Bool := decide (m ≤ j) || (decide (N j = -1) || decide ((if N j = -2 then -1 else N j) = f))
def k_H (m : Nat) (N : Nat → Int32) (y : Nat) : List Nat → Nat → Nat → Nat → Nat
  | [], _, _, _ => 1
  | o :: os, j, u, w => k_su (fun v => if (o.testBit v && k_F m N (j + 1) (k_f3 y u w v)) = true then k_H m N y os (j + 1) w v else 0) 8
def k_G (m : Nat) (N : Nat → Int32) (y : Nat) (os : List Nat) (j t u w : Nat) : Nat := if k_F m N j (k_f3 y t u w) = true then k_H m N y os j u w else 0
def k_prd : List Nat → List (List Nat)
  | [] => [[]]
  | o :: os => (k_bl o 8).flatMap (fun v => (k_prd os).map (fun a => v :: a))
def k_fl (m : Nat) (N : Nat → Int32) (y : Nat) : Nat → Nat → Nat → Nat → List Nat → Bool
  | j, t, u, w, [] => k_F m N j (k_f3 y t u w)
  | j, t, u, w, v :: a => k_F m N j (k_f3 y t u w) && k_fl m N y (j + 1) u w v a
def k_cnt {α : Type} (P : α → Bool) : List α → Nat
  | [] => 0
  | x :: l => (if P x = true then 1 else 0) + k_cnt P l
def k_sl {α : Type} (f : α → Nat) : List α → Nat
  | [] => 0
  | x :: l => f x + k_sl f l
section S1
variable {α β : Type}
theorem k_su_cg {f g : Nat → Nat} : ∀ n, (∀ i, i < n → f i = g i) → k_su f n = k_su g n
  | 0, _ => rfl
  | n + 1, h => by
    unfold k_su
    rw [k_su_cg n (fun i hi => h i (by omega)), h n (by omega)]
theorem k_su_0 : ∀ n, k_su (fun _ => 0) n = 0
  | 0 => rfl
  | n + 1 => by
    unfold k_su
    rw [k_su_0 n]
theorem k_su_add {f g : Nat → Nat} : ∀ n, k_su (fun i => f i + g i) n = k_su f n + k_su g n
  | 0 => rfl
  | n + 1 => by
    unfold k_su
    rw [k_su_add n]
    omega
theorem k_su_one {x q : Nat} : ∀ n, k_su (fun i => if i = q then x else 0) n = if q < n then x else 0
  | 0 => by rw [if_neg (by omega)]; rfl
  | n + 1 => by
    unfold k_su
    rw [k_su_one n]
    by_cases h : n = q
    · rw [if_neg (by omega), if_pos h, if_pos (by omega), Nat.zero_add]
    · rw [if_neg h, Nat.add_zero]
      by_cases h2 : q < n
      · rw [if_pos h2, if_pos (by omega)]
      · rw [if_neg h2, if_neg (by omega)]
theorem k_cnt_app {P : α → Bool} : ∀ (l r : List α), k_cnt P (l ++ r) = k_cnt P l + k_cnt P r
  | [], r => (Nat.zero_add _).symm
  | x :: l, r => by
    show (if P x = true then 1 else 0) + k_cnt P (l ++ r) = (if P x = true then 1 else 0) + k_cnt P l + k_cnt P r
    rw [k_cnt_app l r]
    omega
theorem k_cnt_flat {P : β → Bool} {f : α → List β} : ∀ l : List α, k_cnt P (l.flatMap f) = k_sl (fun x => k_cnt P (f x)) l
  | [] => rfl
  | x :: l => by
    rw [List.flatMap_cons, k_cnt_app, k_cnt_flat l]
    rfl
theorem k_cnt_map {P : β → Bool} {f : α → β} : ∀ l : List α, k_cnt P (l.map f) = k_cnt (fun x => P (f x)) l
  | [] => rfl
  | x :: l => by
    show (if P (f x) = true then 1 else 0) + k_cnt P (l.map f) = _
    rw [k_cnt_map l]
    rfl
theorem k_cnt_cg {P Q : α → Bool} : ∀ l : List α, (∀ x, x ∈ l → P x = Q x) → k_cnt P l = k_cnt Q l
  | [], _ => rfl
  | x :: l, h => by
    unfold k_cnt
    rw [h x (by simp), k_cnt_cg l (fun y hy => h y (by simp [hy]))]
theorem k_cnt_f {l : List α} : k_cnt (fun _ => false) l = 0 := by
  induction l with
  | nil => rfl
  | cons x l ih =>
    show (if false = true then 1 else 0) + k_cnt (fun _ => false) l = 0
    rw [ih, if_neg (by decide)]
theorem k_cnt_le {P : α → Bool} : ∀ l : List α, k_cnt P l ≤ l.length
  | [] => Nat.le_refl _
  | x :: l => by
    have := k_cnt_le (P := P) l
    show (if P x = true then 1 else 0) + k_cnt P l ≤ l.length + 1
    split <;> omega
theorem k_cnt_pos {P : α → Bool} : ∀ {l : List α}, 0 < k_cnt P l ↔ ∃ x, x ∈ l ∧ P x = true
  | [] => ⟨fun h => absurd h (by show ¬ 0 < 0; omega), fun ⟨x, h, _⟩ => by simp at h⟩
  | x :: l => by
    show 0 < (if P x = true then 1 else 0) + k_cnt P l ↔ _
    by_cases q : P x = true
    · rw [if_pos q]
      exact ⟨fun _ => ⟨x, by simp, q⟩, fun _ => by omega⟩
    · rw [if_neg q, Nat.zero_add, k_cnt_pos]
      constructor
      · rintro ⟨y, h1, h2⟩
        exact ⟨y, by simp [h1], h2⟩
      · rintro ⟨y, h1, h2⟩
        rcases List.mem_cons.mp h1 with e | e
        · rw [e] at h2; exact absurd h2 q
        · exact ⟨y, e, h2⟩
theorem k_sl_app {f : α → Nat} : ∀ (l r : List α), k_sl f (l ++ r) = k_sl f l + k_sl f r
  | [], r => (Nat.zero_add _).symm
  | x :: l, r => by
    show f x + k_sl f (l ++ r) = f x + k_sl f l + k_sl f r
    rw [k_sl_app l r]
    omega
theorem k_sl_bl {f : Nat → Nat} {o : Nat} : ∀ n, k_sl f (k_bl o n) = k_su (fun v => if o.testBit v = true then f v else 0) n
  | 0 => rfl
  | n + 1 => by
    rw [k_bl_s]
    unfold k_su
    by_cases q : o.testBit n = true
    · rw [if_pos q, if_pos q, k_sl_app, k_sl_bl n]
      rfl
    · rw [if_neg q, if_neg q, k_sl_bl n]
      rfl
theorem k_sl_cg {f g : α → Nat} : ∀ l : List α, (∀ x, x ∈ l → f x = g x) → k_sl f l = k_sl g l
  | [], _ => rfl
  | x :: l, h => by
    unfold k_sl
    rw [h x (by simp), k_sl_cg l (fun y hy => h y (by simp [hy]))]
/-- exchange -/
theorem k_ex {P : Nat → α → Bool} {n : Nat} : ∀ l : List α, k_su (fun G => k_cnt (P G) l) n = k_sl (fun a => k_su (fun G => if P G a = true then 1 else 0) n) l
  | [] => k_su_0 n
  | x :: l => by
    show k_su (fun G => (if P G x = true then 1 else 0) + k_cnt (P G) l) n = _
    rw [k_su_add, k_ex l]
    rfl
theorem k_sl_cn {P : α → Bool} : ∀ l : List α, k_sl (fun a => if P a = true then 1 else 0) l = k_cnt P l
  | [] => rfl
  | x :: l => by
    unfold k_sl k_cnt
    rw [k_sl_cn l]
end S1
section S2
variable {m y : Nat} {N : Nat → Int32}
theorem k_cnt_G : ∀ (os : List Nat) (j t u w : Nat), k_cnt (k_fl m N y j t u w) (k_prd os) = k_G m N y os j t u w
  | [], j, t, u, w => by
    show (if k_F m N j (k_f3 y t u w) = true then 1 else 0) + 0 = if k_F m N j (k_f3 y t u w) = true then 1 else 0
    rw [Nat.add_zero]
  | o :: os, j, t, u, w => by
    unfold k_prd k_G
    rw [k_cnt_flat]
    by_cases q : k_F m N j (k_f3 y t u w) = true
    · rw [if_pos q, k_sl_bl]
      show _ = k_su _ 8
      refine k_su_cg _ fun v hv => ?_
      rw [k_cnt_map]
      have e : k_cnt (fun a => k_fl m N y j t u w (v :: a)) (k_prd os) = k_G m N y os (j + 1) u w v := by
        rw [← k_cnt_G os (j + 1) u w v]
        refine k_cnt_cg _ fun a _ => ?_
        show (k_F m N j (k_f3 y t u w) && k_fl m N y (j + 1) u w v a) = _
        rw [q, Bool.true_and]
      rw [e]
      unfold k_G
      by_cases q2 : o.testBit v = true
      · rw [if_pos q2, q2, Bool.true_and]
      · rw [if_neg q2, Bool.eq_false_iff.mpr q2, Bool.false_and, if_neg (by decide)]
    · rw [if_neg q, k_sl_bl]
      refine (k_su_cg _ fun v hv => ?_).trans (k_su_0 8)
      rw [k_cnt_map]
      have e : k_cnt (fun a => k_fl m N y j t u w (v :: a)) (k_prd os) = 0 := by
        refine (k_cnt_cg _ fun a _ => ?_).trans k_cnt_f
        show (k_F m N j (k_f3 y t u w) && k_fl m N y (j + 1) u w v a) = false
        rw [Bool.eq_false_iff.mpr q, Bool.false_and]
      rw [e]
      split <;> rfl
/-- what is in the product -/
theorem k_prd_mem : ∀ {os : List Nat} {a : List Nat}, a ∈ k_prd os ↔ a.length = os.length ∧ ∀ i, i < os.length → a.getD i 0 < 8 ∧ (os.getD i 0).testBit (a.getD i 0) = true
  | [], a => by
    unfold k_prd
    constructor
    · intro h
      rw [List.mem_singleton] at h
      rw [h]
      exact ⟨rfl, fun i hi => absurd hi (by show ¬ i < 0; omega)⟩
    · rintro ⟨h, -⟩
      rw [List.mem_singleton]
      exact List.length_eq_zero_iff.mp h
  | o :: os, a => by
    unfold k_prd
    rw [List.mem_flatMap]
    constructor
    · rintro ⟨v, hv, h⟩
      rw [List.mem_map] at h
      obtain ⟨b, hb, e⟩ := h
      obtain ⟨h1, h2⟩ := k_prd_mem.mp hb
      unfold k_bl at hv
      rw [List.mem_filter, List.mem_range] at hv
      rw [← e]
      refine ⟨by show b.length + 1 = os.length + 1; omega, fun i hi => ?_⟩
      cases i with
      | zero => exact hv
      | succ i => exact h2 i (by have : i + 1 < os.length + 1 := hi; omega)
    · rintro ⟨h1, h2⟩
      cases a with
      | nil => exact nomatch h1
      | cons v b =>
        refine ⟨v, ?_, ?_⟩
        · unfold k_bl
          rw [List.mem_filter, List.mem_range]
          exact h2 0 (by show 0 < os.length + 1; omega)
        · rw [List.mem_map]
          refine ⟨b, k_prd_mem.mpr ⟨by have : b.length + 1 = os.length + 1 := h1; omega, fun i hi => ?_⟩, rfl⟩
          exact h2 (i + 1) (by show i + 1 < os.length + 1; omega)
theorem k_sl_le {α : Type} {f : α → Nat} {c : Nat} : ∀ l : List α, (∀ x, x ∈ l → f x ≤ c) → k_sl f l ≤ l.length * c
  | [], _ => by show 0 ≤ _; omega
  | x :: l, h => by
    have a := k_sl_le l (fun y hy => h y (by simp [hy]))
    have b := h x (by simp)
    show f x + k_sl f l ≤ (l.length + 1) * c
    rw [Nat.add_mul, Nat.one_mul]
    omega
theorem k_cnt_t {α : Type} : ∀ l : List α, k_cnt (fun _ => true) l = l.length
  | [] => rfl
  | x :: l => by
    show 1 + k_cnt (fun _ => true) l = l.length + 1
    rw [k_cnt_t l]
    omega
theorem k_prd_len : ∀ os : List Nat, (k_prd os).length ≤ 8 ^ os.length
  | [] => Nat.le_refl _
  | o :: os => by
    rw [← k_cnt_t]
    unfold k_prd
    rw [k_cnt_flat]
    have hl : (k_bl o 8).length ≤ 8 := by
      unfold k_bl
      exact Nat.le_trans (List.length_filter_le _ _) (by rw [List.length_range]; exact Nat.le_refl _)
    have hb := k_sl_le (c := 8 ^ os.length) (f := fun v => k_cnt (fun _ => true) ((k_prd os).map (fun a => v :: a))) (k_bl o 8) (fun v _ => by
      rw [k_cnt_t, List.length_map]; exact k_prd_len os)
    refine Nat.le_trans hb ?_
    show _ ≤ 8 ^ (os.length + 1)
    rw [Nat.pow_succ, Nat.mul_comm]
    exact Nat.mul_le_mul_left _ hl
/-- masks -/
def k_im2 : List Nat → List Nat → Bool
  | k :: ms, v :: a => k.testBit v && k_im2 ms a
  | _, _ => true
theorem k_bl_and {o k : Nat} {f : Nat → Nat} : k_sl f (k_bl (o &&& k) 8) = k_sl (fun v => if k.testBit v = true then f v else 0) (k_bl o 8) := by
  rw [k_sl_bl, k_sl_bl]
  refine k_su_cg _ fun v _ => ?_
  rw [Nat.testBit_and]
  cases o.testBit v <;> cases k.testBit v <;> rfl
theorem k_prd_and : ∀ (os ms : List Nat) (P : List Nat → Bool), os.length = ms.length → k_cnt P (k_prd (List.zipWith (fun a b => a &&& b) os ms)) = k_cnt (fun a => P a && k_im2 ms a) (k_prd os)
  | [], [], P, _ => by
    show (if P [] = true then 1 else 0) + 0 = (if (P [] && true) = true then 1 else 0) + 0
    rw [Bool.and_true]
  | o :: os, k :: ms, P, h => by
    rw [List.zipWith_cons_cons]
    unfold k_prd
    rw [k_cnt_flat, k_cnt_flat, k_bl_and]
    refine k_sl_cg _ fun v hv => ?_
    rw [k_cnt_map, k_cnt_map, k_prd_and os ms _ (by have : os.length + 1 = ms.length + 1 := h; omega)]
    by_cases q : k.testBit v = true
    · rw [if_pos q]
      refine k_cnt_cg _ fun a _ => ?_
      show (P (v :: a) && k_im2 ms a) = (P (v :: a) && (k.testBit v && k_im2 ms a))
      rw [q, Bool.true_and]
    · rw [if_neg q]
      refine (Eq.symm ((k_cnt_cg _ fun a _ => ?_).trans k_cnt_f))
      show (P (v :: a) && (k.testBit v && k_im2 ms a)) = false
      rw [Bool.eq_false_iff.mpr q, Bool.false_and, Bool.and_false]
theorem k_im2_all : ∀ {ms a : List Nat}, a.length = ms.length → (k_im2 ms a = true ↔ ∀ i, i < ms.length → (ms.getD i 0).testBit (a.getD i 0) = true)
  | [], a, h => ⟨fun _ i hi => absurd hi (by show ¬ i < 0; omega), fun _ => by cases a <;> rfl⟩
  | k :: ms, [], h => nomatch h
  | k :: ms, v :: a, h => by
    show (k.testBit v && k_im2 ms a) = true ↔ _
    rw [Bool.and_eq_true, k_im2_all (by have : a.length + 1 = ms.length + 1 := h; omega)]
    constructor
    · rintro ⟨h1, h2⟩ i hi
      cases i with
      | zero => exact h1
      | succ i => exact h2 i (by have : i + 1 < ms.length + 1 := hi; omega)
    · intro hh
      exact ⟨hh 0 (by show 0 < ms.length + 1; omega), fun i hi => hh (i + 1) (by show i + 1 < ms.length + 1; omega)⟩
/-- what fits, by places -/
theorem k_fl_e : ∀ (a : List Nat) (j t u w : Nat), k_fl m N y j t u w a = true ↔ ∀ i, i ≤ a.length → k_F m N (j + i) (k_f3 y ((t :: u :: w :: a).getD i 0) ((t :: u :: w :: a).getD (i + 1) 0) ((t :: u :: w :: a).getD (i + 2) 0)) = true
  | [], j, t, u, w => by
    constructor
    · intro h i hi
      have : i = 0 := by have : i ≤ 0 := hi; omega
      rw [this]
      exact h
    · intro h
      exact h 0 (Nat.le_refl _)
  | v :: a, j, t, u, w => by
    show (k_F m N j (k_f3 y t u w) && k_fl m N y (j + 1) u w v a) = true ↔ _
    rw [Bool.and_eq_true, k_fl_e a]
    constructor
    · rintro ⟨h1, h2⟩ i hi
      cases i with
      | zero => exact h1
      | succ i =>
        have := h2 i (by have : i + 1 ≤ a.length + 1 := hi; omega)
        rw [show j + 1 + i = j + (i + 1) by omega] at this
        exact this
    · intro h
      refine ⟨h 0 (by omega), fun i hi => ?_⟩
      have := h (i + 1) (by show i + 1 ≤ a.length + 1; omega)
      rw [show j + (i + 1) = j + 1 + i by omega] at this
      exact this
end S2
/-! all that fits -/
def k_av (a : List Nat) (i : Nat) : Int32 := k_cv (a.getD i 0)
def k_ok2 (K : Nat → Int32) (N : Nat → Int32) (a : List Nat) : Bool := (List.range (k_m K)).all (fun i => k_F (k_m K) N i (k_fe K false (k_m K) (k_av a) (k_y K) i))
theorem k_ok2_i {K N : Nat → Int32} {a : List Nat} : k_ok2 K N a = true ↔ ∀ i, i < k_m K → k_F (k_m K) N i (k_fe K false (k_m K) (k_av a) (k_y K) i) = true := by
  unfold k_ok2
  rw [List.all_eq_true]
  exact ⟨fun h i hi => h i (List.mem_range.mpr hi), fun h i hi => h i (List.mem_range.mp hi)⟩
theorem k_fl_ok {K N : Nat → Int32} {a : List Nat} {t u w : Nat} (hl : a.length = k_m K) (h1 : k_cv w = k_bk K (k_av a) 1) (h2 : k_cv u = k_bk K (k_av a) 2) (h3 : k_cv t = k_bk K (k_av a) 3) : k_fl (k_m K) N (k_y K) 0 t u w a = k_ok2 K N a := by
  have e : ∀ i, i < k_m K → k_f3 (k_y K) ((t :: u :: w :: a).getD i 0) ((t :: u :: w :: a).getD (i + 1) 0) ((t :: u :: w :: a).getD (i + 2) 0) = k_fe K false (k_m K) (k_av a) (k_y K) i := fun i hi => by
    have z := fun n (n1 : 1 ≤ n) (n3 : n ≤ 3) => k_ln_ah (K := K) (A := k_av a) (L := fun j => k_cv ((t :: u :: w :: a).getD j 0)) hi n1 n3 (fun j hj => by
      show k_cv ((t :: u :: w :: a).getD (3 + j) 0) = k_cv (a.getD j 0)
      rw [Nat.add_comm 3 j]
      rfl) (fun b b1 b3 => by
      have : b = 1 ∨ b = 2 ∨ b = 3 := by omega
      rcases this with rfl | rfl | rfl
      · exact h1
      · exact h2
      · exact h3)
    have z1 := z 1 (by decide) (by decide)
    have z2 := z 2 (by decide) (by decide)
    have z3 := z 3 (by decide) (by decide)
    rw [show i + (3 - 1) = i + 2 by omega] at z1
    rw [show i + (3 - 2) = i + 1 by omega] at z2
    rw [show i + (3 - 3) = i by omega] at z3
    unfold k_f3 k_fe
    rw [← z1, ← z2, ← z3]
  have iff : k_fl (k_m K) N (k_y K) 0 t u w a = true ↔ k_ok2 K N a = true := by
    rw [k_fl_e, k_ok2_i]
    constructor
    · intro h i hi
      rw [← e i hi]
      have := h i (by omega)
      rw [Nat.zero_add] at this
      exact this
    · intro h i hi
      rw [Nat.zero_add]
      by_cases q : i < k_m K
      · rw [e i q]; exact h i q
      · unfold k_F
        rw [decide_eq_true (show k_m K ≤ i by omega)]
        rfl
  cases e1 : k_ok2 K N a
  · cases e2 : k_fl (k_m K) N (k_y K) 0 t u w a
    · rfl
    · rw [iff.mp e2] at e1; exact nomatch e1
  · exact iff.mpr e1
