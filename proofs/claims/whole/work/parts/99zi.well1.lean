/-! THE WELL: words and tokens, without a memory -/
def k_wl : List (List Nat) := [[103, 111, 111, 100, 115], [112, 101, 114, 115, 111, 110], [97, 115, 107, 115], [97, 112, 97, 114, 116], [108, 105, 107, 101, 115], [98, 101, 104, 105, 110, 100], [109, 105, 100, 100, 108, 101], [114, 105, 110, 103], [110, 105, 103, 104, 116], [114, 117, 105, 110], [108, 97, 119], [110, 111, 116], [97, 110, 100], [111, 114], [103, 111, 111, 100], [119, 111, 114, 116, 104], [97, 103, 101], [103, 111, 108, 100], [112, 108, 97, 99, 101], [111, 116, 104, 101, 114, 115], [116, 111, 116, 97, 108], [100, 97, 121]]
def k_wf2 (ws : List (List Nat)) : List Nat := ws.flatMap (fun w => w ++ [32])
theorem n_ws : (k_wf2 k_wl).length = 118 ∧ ∀ k, k < 118 → (ir_byt 0).getD k 0 = nI ((k_wf2 k_wl).getD k 0) := by decide +kernel
theorem n_wc : ∀ k, k < 118 → (k_wf2 k_wl).getD k 0 < 128 := by decide +kernel
/-- the text of a token -/
def k_tx (B : Nat → Nat) (s e : Nat) : List Nat := (List.range (e - s)).map (fun j => B (s + j))
def k_wmt (B : Nat → Nat) (s e : Nat) : List Nat → Nat → Option Nat → Nat → Nat
  | [], _, _, kd => kd
  | c :: r, w, sm, kd => if c = 32 then k_wmt B s e r (w + 1) (some 0) (if sm = some (e - s) then w else kd) else (match sm with | some x => if x < e - s ∧ B (s + x) = c then k_wmt B s e r w (some (x + 1)) kd else k_wmt B s e r w none kd | none => k_wmt B s e r w none kd)
def k_lw2 (T : List Nat) : List (List Nat) → Nat → Nat → Nat
  | [], _, kd => kd
  | w :: ws, W, kd => k_lw2 T ws (W + 1) (if T = w then W else kd)
section WM
variable {B : Nat → Nat} {s e : Nat}
theorem k_tx_len : (k_tx B s e).length = e - s := by unfold k_tx; rw [List.length_map, List.length_range]
theorem k_tx_g {i : Nat} (h : i < e - s) : (k_tx B s e).getD i 0 = B (s + i) := by
  unfold k_tx
  rw [List.getD_eq_getElem?_getD, List.getElem?_map, List.getElem?_range h]
  rfl
theorem k_wmt_n : ∀ (w r : List Nat) (W kd : Nat), (∀ c, c ∈ w → c ≠ 32) → k_wmt B s e (w ++ 32 :: r) W none kd = k_wmt B s e r (W + 1) (some 0) kd
  | [], r, W, kd, _ => by
    show (if 32 = 32 then k_wmt B s e r (W + 1) (some 0) (if none = some (e - s) then W else kd) else _) = _
    rw [if_pos rfl, if_neg (fun q => nomatch q)]
  | c :: w, r, W, kd, h => by
    show (if c = 32 then _ else k_wmt B s e (w ++ 32 :: r) W none kd) = _
    rw [if_neg (h c (by simp))]
    exact k_wmt_n w r W kd (fun x hx => h x (by simp [hx]))
theorem k_wmt_s : ∀ (w r : List Nat) (W kd x : Nat), (∀ c, c ∈ w → c ≠ 32) → x ≤ e - s → k_wmt B s e (w ++ 32 :: r) W (some x) kd = k_wmt B s e r (W + 1) (some 0) (if (k_tx B s e).drop x = w then W else kd)
  | [], r, W, kd, x, _, hx => by
    show (if 32 = 32 then k_wmt B s e r (W + 1) (some 0) (if some x = some (e - s) then W else kd) else _) = _
    rw [if_pos rfl]
    by_cases q : x = e - s
    · rw [if_pos (by rw [q]), if_pos (List.drop_eq_nil_of_le (by rw [k_tx_len]; omega))]
    · rw [if_neg (fun w => q (Option.some.inj w)), if_neg]
      intro w
      have := congrArg List.length w
      rw [List.length_drop, k_tx_len] at this
      have : e - s - x = 0 := this
      omega
  | c :: w, r, W, kd, x, h, hx => by
    show (if c = 32 then _ else if x < e - s ∧ B (s + x) = c then k_wmt B s e (w ++ 32 :: r) W (some (x + 1)) kd else k_wmt B s e (w ++ 32 :: r) W none kd) = _
    rw [if_neg (h c (by simp))]
    by_cases q : x < e - s ∧ B (s + x) = c
    · rw [if_pos q, k_wmt_s w r W kd (x + 1) (fun y hy => h y (by simp [hy])) (by omega)]
      have e1 : (k_tx B s e).drop x = c :: (k_tx B s e).drop (x + 1) := by
        rw [List.drop_eq_getElem_cons (by rw [k_tx_len]; exact q.1)]
        congr 1
        have g := k_tx_g (B := B) q.1
        rw [List.getD_eq_getElem?_getD, List.getElem?_eq_getElem (by rw [k_tx_len]; exact q.1)] at g
        exact g.trans q.2
      rw [e1]
      by_cases q2 : (k_tx B s e).drop (x + 1) = w
      · rw [if_pos q2, if_pos (by rw [q2])]
      · rw [if_neg q2, if_neg (fun z => q2 (List.cons.inj z).2)]
    · rw [if_neg q, k_wmt_n w r W kd (fun y hy => h y (by simp [hy])), if_neg]
      intro z
      have hl := congrArg List.length z
      rw [List.length_drop, k_tx_len] at hl
      have hl2 : e - s - x = w.length + 1 := hl
      refine q ⟨by omega, ?_⟩
      have g := k_tx_g (B := B) (s := s) (e := e) (i := x) (by omega)
      have : ((k_tx B s e).drop x).getD 0 0 = c := by rw [z]; rfl
      rw [List.getD_eq_getElem?_getD, List.getElem?_drop, Nat.add_zero, ← List.getD_eq_getElem?_getD, g] at this
      exact this
theorem k_wmt_l : ∀ (ws : List (List Nat)) (W kd : Nat), (∀ w, w ∈ ws → ∀ c, c ∈ w → c ≠ 32) → k_wmt B s e (k_wf2 ws) W (some 0) kd = k_lw2 (k_tx B s e) ws W kd
  | [], _, _, _ => rfl
  | w :: ws, W, kd, h => by
    unfold k_wf2
    rw [List.flatMap_cons, List.append_assoc]
    show k_wmt B s e (w ++ 32 :: k_wf2 ws) W (some 0) kd = _
    rw [k_wmt_s w _ W kd 0 (h w (by simp)) (Nat.zero_le _), List.drop_zero]
    exact k_wmt_l ws (W + 1) _ (fun v hv => h v (by simp [hv]))
end WM
theorem k_lw2_no {T : List Nat} : ∀ (ws : List (List Nat)) (W kd : Nat), T ∉ ws → k_lw2 T ws W kd = kd
  | [], _, _, _ => rfl
  | w :: ws, W, kd, h => by
    show k_lw2 T ws (W + 1) (if T = w then W else kd) = kd
    rw [if_neg (fun q => h (by rw [q]; simp))]
    exact k_lw2_no ws _ _ (fun q => h (by simp [q]))
theorem k_lw2_at {T : List Nat} : ∀ (ws : List (List Nat)) (W kd j : Nat), ws.Nodup → j < ws.length → T = ws.getD j [] → k_lw2 T ws W kd = W + j
  | [], _, _, j, _, h, _ => absurd h (by show ¬ j < 0; omega)
  | w :: ws, W, kd, 0, hn, _, e => by
    show k_lw2 T ws (W + 1) (if T = w then W else kd) = W + 0
    have e' : T = w := e
    rw [if_pos e']
    exact k_lw2_no ws _ _ (by rw [e']; exact (List.nodup_cons.mp hn).1)
  | w :: ws, W, kd, j + 1, hn, h, e => by
    show k_lw2 T ws (W + 1) _ = W + (j + 1)
    rw [k_lw2_at ws (W + 1) _ j (List.nodup_cons.mp hn).2 (by have : j + 1 < ws.length + 1 := h; omega) e]
    omega
theorem n_wn : k_wl.Nodup ∧ k_wl.length = 22 := by decide +kernel
theorem n_w32 : ∀ w, w ∈ k_wl → ∀ c, c ∈ w → c ≠ 32 := by decide +kernel
/-- the kind of a word -/
def k_wc (T : List Nat) : Nat := k_lw2 T k_wl 256 3
theorem k_wc_i {T : List Nat} {j : Nat} (hj : j < 22) : k_wc T = 256 + j ↔ T = k_wl.getD j [] := by
  constructor
  · intro h
    by_cases q : T ∈ k_wl
    · obtain ⟨i, hi, e⟩ := List.mem_iff_getElem.mp q
      have e' : T = k_wl.getD i [] := by rw [List.getD_eq_getElem?_getD, List.getElem?_eq_getElem hi]; exact e.symm
      have z := k_lw2_at (T := T) k_wl 256 3 i n_wn.1 hi e'
      have : i = j := by
        have : 256 + i = 256 + j := z.symm.trans h
        omega
      rw [← this]
      exact e'
    · have : (3 : Nat) = 256 + j := (k_lw2_no k_wl 256 3 q).symm.trans h
      omega
  · intro h
    exact k_lw2_at k_wl 256 3 j n_wn.1 (by rw [n_wn.2]; exact hj) h
theorem k_wc_r {T : List Nat} : k_wc T = 3 ∨ (256 ≤ k_wc T ∧ k_wc T < 278) := by
  by_cases q : T ∈ k_wl
  · obtain ⟨i, hi, e⟩ := List.mem_iff_getElem.mp q
    have e' : T = k_wl.getD i [] := by rw [List.getD_eq_getElem?_getD, List.getElem?_eq_getElem hi]; exact e.symm
    have z : k_wc T = 256 + i := k_lw2_at (T := T) k_wl 256 3 i n_wn.1 hi e'
    rw [n_wn.2] at hi
    exact Or.inr (by omega)
  · exact Or.inl (k_lw2_no k_wl 256 3 q)
/-! tokens -/
def k_sk (B : Nat → Nat) : Nat → Nat → Nat
  | 0, p => p
  | f + 1, p => if B p = 10 ∨ B p = 32 then k_sk B f (p + 1) else p
def k_run (P : Nat → Bool) (B : Nat → Nat) : Nat → Nat → Nat
  | 0, p => p
  | f + 1, p => if P (B p) = true then k_run P B f (p + 1) else p
def k_dg (b : Nat) : Bool := decide (48 ≤ b ∧ b ≤ 57)
def k_ltr (b : Nat) : Bool := decide (97 ≤ b ∧ b ≤ 122)
def k_sg (b : Nat) : Bool := decide (b = 59 ∨ b = 43 ∨ b = 45 ∨ b = 42 ∨ b = 40 ∨ b = 41 ∨ b = 91 ∨ b = 93 ∨ b = 61 ∨ b = 60 ∨ b = 62)
def k_nv (B : Nat → Nat) (s : Nat) : Nat → Nat
  | 0 => 0
  | j + 1 => 10 * k_nv B s j + (B (s + j) - 48)
def k_ts (B : Nat → Nat) (n p : Nat) : Nat := k_sk B (n - p) p
/-- (kind, end, value) of the token that begins at s -/
def k_t3 (B : Nat → Nat) (n s : Nat) : Nat × Nat × Nat := if n ≤ s then (0, s, 0) else if k_dg (B s) = true then ((if k_run k_dg B (n - s) s - s ≤ 3 then 2 else 1), k_run k_dg B (n - s) s, k_nv B s (min (k_run k_dg B (n - s) s - s) 3)) else if k_ltr (B s) = true then (k_wc (k_tx B s (k_run k_ltr B (n - s) s)), k_run k_ltr B (n - s) s, 0) else ((if k_sg (B s) = true then B s else 1), s + 1, 0)
theorem k_sk_r {B : Nat → Nat} : ∀ f p, p ≤ k_sk B f p ∧ k_sk B f p ≤ p + f
  | 0, p => ⟨Nat.le_refl _, by show p ≤ p + 0; omega⟩
  | f + 1, p => by
    unfold k_sk
    split
    · have := k_sk_r (B := B) f (p + 1); omega
    · omega
theorem k_run_r {P : Nat → Bool} {B : Nat → Nat} : ∀ f p, p ≤ k_run P B f p ∧ k_run P B f p ≤ p + f
  | 0, p => ⟨Nat.le_refl _, by show p ≤ p + 0; omega⟩
  | f + 1, p => by
    unfold k_run
    split
    · have := k_run_r (P := P) (B := B) f (p + 1); omega
    · omega
theorem k_run_1 {P : Nat → Bool} {B : Nat → Nat} {f p : Nat} (hf : 0 < f) (h : P (B p) = true) : p + 1 ≤ k_run P B f p := by
  cases f with
  | zero => omega
  | succ f =>
    unfold k_run
    rw [if_pos h]
    exact (k_run_r f (p + 1)).1
theorem k_nv_lt {B : Nat → Nat} {s : Nat} : ∀ j, (∀ i, i < j → k_dg (B (s + i)) = true) → k_nv B s j < 10 ^ j
  | 0, _ => by show 0 < 1; omega
  | j + 1, h => by
    have ih := k_nv_lt j (fun i hi => h i (by omega))
    have hd := of_decide_eq_true (h j (by omega))
    show 10 * k_nv B s j + (B (s + j) - 48) < 10 ^ (j + 1)
    rw [Nat.pow_succ]
    omega
theorem k_run_all {P : Nat → Bool} {B : Nat → Nat} : ∀ f p i, p ≤ i → i < k_run P B f p → P (B i) = true
  | 0, p, i, h1, h2 => absurd h2 (by show ¬ i < p; omega)
  | f + 1, p, i, h1, h2 => by
    unfold k_run at h2
    by_cases q : P (B p) = true
    · rw [if_pos q] at h2
      by_cases q2 : i = p
      · rw [q2]; exact q
      · exact k_run_all f (p + 1) i (by omega) h2
    · rw [if_neg q] at h2
      omega
/-- bounds of a token -/
theorem k_t3_b {B : Nat → Nat} {n s : Nat} (hs : s ≤ n) : s ≤ (k_t3 B n s).2.1 ∧ (k_t3 B n s).2.1 ≤ n ∧ ((k_t3 B n s).1 ≠ 0 → s + 1 ≤ (k_t3 B n s).2.1) ∧ ((k_t3 B n s).1 = 0 ↔ n ≤ s) ∧ (k_t3 B n s).1 < 300 ∧ ((k_t3 B n s).1 = 2 → (k_t3 B n s).2.2 < 1000) := by
  unfold k_t3
  by_cases q : n ≤ s
  · rw [if_pos q]
    exact ⟨Nat.le_refl _, hs, fun w => absurd rfl w, ⟨fun _ => q, fun _ => rfl⟩, by show 0 < 300; omega, fun w => nomatch w⟩
  · rw [if_neg q]
    by_cases q1 : k_dg (B s) = true
    · rw [if_pos q1]
      have a := k_run_r (P := k_dg) (B := B) (n - s) s
      have b := k_run_1 (P := k_dg) (B := B) (f := n - s) (p := s) (by omega) q1
      refine ⟨a.1, by show k_run k_dg B (n - s) s ≤ n; omega, fun _ => b, ⟨fun w => ?_, fun w => absurd w q⟩, ?_, fun _ => ?_⟩
      · dsimp only at w
        split at w <;> exact nomatch w
      · dsimp only
        split <;> omega
      · dsimp only
        have := k_nv_lt (B := B) (s := s) (min (k_run k_dg B (n - s) s - s) 3) (fun i hi => k_run_all (n - s) s (s + i) (by omega) (by omega))
        have le : 10 ^ (min (k_run k_dg B (n - s) s - s) 3) ≤ 10 ^ 3 := Nat.pow_le_pow_right (by decide) (Nat.min_le_right _ _)
        have : (10 : Nat) ^ 3 = 1000 := by decide
        omega
    · rw [if_neg q1]
      by_cases q2 : k_ltr (B s) = true
      · rw [if_pos q2]
        have a := k_run_r (P := k_ltr) (B := B) (n - s) s
        have b := k_run_1 (P := k_ltr) (B := B) (f := n - s) (p := s) (by omega) q2
        have c := k_wc_r (T := k_tx B s (k_run k_ltr B (n - s) s))
        refine ⟨a.1, by show k_run k_ltr B (n - s) s ≤ n; omega, fun _ => b, ⟨fun w => ?_, fun w => absurd w q⟩, ?_, fun w => ?_⟩
        · dsimp only at w
          omega
        · dsimp only
          omega
        · dsimp only at w
          omega
      · rw [if_neg q2]
        refine ⟨by show s ≤ s + 1; omega, by show s + 1 ≤ n; omega, fun _ => Nat.le_refl _, ⟨fun w => ?_, fun w => absurd w q⟩, ?_, fun w => ?_⟩
        · dsimp only at w
          split at w
          · next z =>
            have := of_decide_eq_true z
            omega
          · exact nomatch w
        · dsimp only
          split
          · next z =>
            have := of_decide_eq_true z
            omega
          · omega
        · dsimp only at w
          split at w
          · next z =>
            have := of_decide_eq_true z
            omega
          · exact nomatch w
