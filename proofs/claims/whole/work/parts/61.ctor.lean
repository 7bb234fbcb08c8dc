/-! THE CONSTRUCTORS: each is a row of new cells and of pointers written. (0, _, k, _): a new cell of k slots; (1, a, k, v): a pointer; (2, a, k, v): a number. -/
def q_do (M : ir_M) (c : Nat × Nat × Nat × Nat) : ir_M := match c with
  | (0, _, k, _) => ir_al M k
  | (1, a, k, v) => ir_sP M a k v
  | (_, a, k, v) => ir_sI M a k (nI v)
def q_run : List (Nat × Nat × Nat × Nat) → ir_M → ir_M
  | [], M => M
  | c :: l, M => q_run l (q_do M c)
theorem q_run_app : ∀ (l r : List (Nat × Nat × Nat × Nat)) (M : ir_M), q_run (l ++ r) M = q_run r (q_run l M)
  | [], _, _ => rfl
  | c :: l, r, M => q_run_app l r (q_do M c)
def q_cnt : List (Nat × Nat × Nat × Nat) → Nat
  | [] => 0
  | (0, _) :: l => q_cnt l + 1
  | (_ + 1, _) :: l => q_cnt l
def q_sum : List (Nat × Nat × Nat × Nat) → Nat
  | [] => 0
  | (0, _, k, _) :: l => k + q_sum l
  | (_ + 1, _) :: l => q_sum l
def q_lkP : List (Nat × Nat × Nat × Nat) → Nat → Nat → Nat → Nat
  | [], _, _, z => z
  | (1, a, k, v) :: l, x, y, z => q_lkP l x y (if x = a then (if y = k then v else z) else z)
  | (_, _) :: l, x, y, z => q_lkP l x y z
def q_lkI : List (Nat × Nat × Nat × Nat) → Nat → Nat → Int32 → Int32
  | [], _, _, z => z
  | (0, _) :: l, x, y, z => q_lkI l x y z
  | (1, _) :: l, x, y, z => q_lkI l x y z
  | (_ + 2, a, k, v) :: l, x, y, z => q_lkI l x y (if x = a then (if y = k then nI v else z) else z)
theorem q_do_P (M : ir_M) (a k v x y : Nat) : (ir_sP M a k v).2.2.1 x y = if x = a then (if y = k then v else M.2.2.1 x y) else M.2.2.1 x y := by
  show (if x = a then (fun j => if j = k then v else M.2.2.1 a j) else M.2.2.1 x) y = _
  by_cases h : x = a
  · rw [if_pos h, if_pos h, h]
  · rw [if_neg h, if_neg h]
theorem q_do_I (M : ir_M) (a k : Nat) (v : Int32) (x y : Nat) : (ir_sI M a k v).1 x y = if x = a then (if y = k then v else M.1 x y) else M.1 x y := by
  show (if x = a then upd (M.1 a) k v else M.1 x) y = _
  by_cases h : x = a
  · rw [if_pos h, if_pos h, h]
    rfl
  · rw [if_neg h, if_neg h]
theorem q_run_nx : ∀ (l : List (Nat × Nat × Nat × Nat)) (M : ir_M), ir_nx (q_run l M) = ir_nx M + q_cnt l
  | [], _ => rfl
  | (0, a, k, v) :: l, M => by
    show ir_nx (q_run l (ir_al M k)) = _
    rw [q_run_nx l (ir_al M k)]
    show ir_nx M + 1 + q_cnt l = ir_nx M + (q_cnt l + 1)
    omega
  | (1, a, k, v) :: l, M => q_run_nx l (ir_sP M a k v)
  | (_ + 2, a, k, v) :: l, M => q_run_nx l (ir_sI M a k (nI v))
theorem q_run_nc : ∀ (l : List (Nat × Nat × Nat × Nat)) (M : ir_M), ir_nc (q_run l M) = ir_nc M + q_cnt l
  | [], _ => rfl
  | (0, a, k, v) :: l, M => by
    show ir_nc (q_run l (ir_al M k)) = _
    rw [q_run_nc l (ir_al M k)]
    show ir_nc M + 1 + q_cnt l = ir_nc M + (q_cnt l + 1)
    omega
  | (1, a, k, v) :: l, M => q_run_nc l (ir_sP M a k v)
  | (_ + 2, a, k, v) :: l, M => q_run_nc l (ir_sI M a k (nI v))
theorem q_run_ns : ∀ (l : List (Nat × Nat × Nat × Nat)) (M : ir_M), ir_ns (q_run l M) = ir_ns M + q_sum l
  | [], _ => rfl
  | (0, a, k, v) :: l, M => by
    show ir_ns (q_run l (ir_al M k)) = _
    rw [q_run_ns l (ir_al M k)]
    show ir_ns M + k + q_sum l = ir_ns M + (k + q_sum l)
    omega
  | (1, a, k, v) :: l, M => q_run_ns l (ir_sP M a k v)
  | (_ + 2, a, k, v) :: l, M => q_run_ns l (ir_sI M a k (nI v))
theorem q_run_ex : ∀ (l : List (Nat × Nat × Nat × Nat)) (M : ir_M), ir_ex (q_run l M) = ir_ex M
  | [], _ => rfl
  | (0, a, k, v) :: l, M => q_run_ex l (ir_al M k)
  | (1, a, k, v) :: l, M => q_run_ex l (ir_sP M a k v)
  | (_ + 2, a, k, v) :: l, M => q_run_ex l (ir_sI M a k (nI v))
theorem q_run_J : ∀ (l : List (Nat × Nat × Nat × Nat)) (M : ir_M), (q_run l M).2.1 = M.2.1
  | [], _ => rfl
  | (0, a, k, v) :: l, M => q_run_J l (ir_al M k)
  | (1, a, k, v) :: l, M => q_run_J l (ir_sP M a k v)
  | (_ + 2, a, k, v) :: l, M => q_run_J l (ir_sI M a k (nI v))
theorem q_run_P : ∀ (l : List (Nat × Nat × Nat × Nat)) (M : ir_M) (x y : Nat), (q_run l M).2.2.1 x y = q_lkP l x y (M.2.2.1 x y)
  | [], _, _, _ => rfl
  | (0, a, k, v) :: l, M, x, y => q_run_P l (ir_al M k) x y
  | (1, a, k, v) :: l, M, x, y => by
    show (q_run l (ir_sP M a k v)).2.2.1 x y = _
    rw [q_run_P l (ir_sP M a k v) x y, q_do_P]
    rfl
  | (_ + 2, a, k, v) :: l, M, x, y => q_run_P l (ir_sI M a k (nI v)) x y
theorem q_run_I : ∀ (l : List (Nat × Nat × Nat × Nat)) (M : ir_M) (x y : Nat), (q_run l M).1 x y = q_lkI l x y (M.1 x y)
  | [], _, _, _ => rfl
  | (0, a, k, v) :: l, M, x, y => q_run_I l (ir_al M k) x y
  | (1, a, k, v) :: l, M, x, y => q_run_I l (ir_sP M a k v) x y
  | (_ + 2, a, k, v) :: l, M, x, y => by
    show (q_run l (ir_sI M a k (nI v))).1 x y = _
    rw [q_run_I l (ir_sI M a k (nI v)) x y, q_do_I]
    rfl
def q_Z : ir_M := (fun _ _ => 0, fun _ _ => 0, fun _ _ => 0, (0, 0, 0, true))
def q_ln (a : Nat) : Nat := ir_ln q_Z a
theorem q_ln_eq {M : ir_M} {a : Nat} (h : a < 1000000) : ir_ln M a = q_ln a := ir_ln_own h
/-- cell n is to be an array of the kind c, of len places; an object of the kind c -/
def q_kA (n c len : Nat) : Bool := Nat.beq (ir_kd n) c && (Nat.blt n 1000000 && Nat.beq (q_ln n) len)
def q_kO (n c : Nat) : Bool := Nat.beq (ir_kd n) c && Nat.blt n 1000000
theorem q_kA_inv {n c len : Nat} (h : q_kA n c len = true) : ir_kd n = c ∧ n < 1000000 ∧ q_ln n = len := ⟨ir_beq (ir_and h).1, ir_blt (ir_and (ir_and h).2).1, ir_beq (ir_and (ir_and h).2).2⟩
theorem q_kO_inv {n c : Nat} (h : q_kO n c = true) : ir_kd n = c ∧ n < 1000000 := ⟨ir_beq (ir_and h).1, ir_blt (ir_and h).2⟩
theorem q_beq (n : Nat) : Nat.beq n n = true := Nat.beq_refl n
section QC
variable {M : ir_M} {a c k n ka len : Nat} {v : Int32} {f : ir_M → ir_R}
theorem q_gkO (h : q_kO a c = true) (ha : a < ir_nx M) : ir_gk M a c = true := by
  obtain ⟨h1, h2⟩ := q_kO_inv h
  unfold ir_gk
  rw [h1, q_beq, ir_blt_t ha]
  rfl
theorem q_gvO (h : q_kO a c = true) (ha : a < ir_nx M) (h0 : 0 < n) (hn : n < ir_nx M) : ir_gv M a c n = true := by
  unfold ir_gv
  rw [q_gkO h ha, ir_blt_t (q_kO_inv h).2, ir_blt_t h0, ir_blt_t hn]
  rfl
theorem q_gqO (h : q_kO a c = true) (ha : a < ir_nx M) : ir_gq M a c = true := by
  unfold ir_gq
  rw [q_gkO h ha, ir_blt_t (q_kO_inv h).2]
  rfl
theorem q_gnO (hn : ir_nx M = n) (hx : ir_ex M = true) (h : q_kO n c = true) : ir_gn M c = true := by
  obtain ⟨h1, h2⟩ := q_kO_inv h
  unfold ir_gn
  rw [hn, h1, q_beq, ir_blt_t h2, hx]
  rfl
theorem q_gnaA (hn : ir_nx M = n) (hx : ir_ex M = true) (h : q_kA n c len = true) (hl : v.toNatClampNeg = len) (hv : ¬ v < 0) (h5 : len ≤ 5000) : ir_gna M c v = true := by
  obtain ⟨h1, h2, h3⟩ := q_kA_inv h
  unfold ir_gna
  have h4 : q_kO n c = true := by
    unfold q_kO
    rw [h1, q_beq, ir_blt_t h2]
    rfl
  rw [q_gnO hn hx h4, hn, q_ln_eq h2, h3, hl, q_beq, show Nat.ble len 5000 = true from Nat.ble_eq_true_of_le h5]
  simp [hv]
/-- a new array, and a pointer to it written -/
theorem q_ap (hn : ir_nx M = n) (hx : ir_ex M = true) (hA : q_kA n ka len = true) (hl : v.toNatClampNeg = len) (hv : ¬ v < 0) (h5 : len ≤ 5000) (hO : q_kO a c = true) (ha : a < n) :
    ir_ck (ir_gna M ka v) (ir_lt (ir_al M v.toNatClampNeg) (fun M1 => ir_ck (ir_gv M1 a c (ir_nx M)) (ir_lt (ir_sP M1 a k (ir_nx M)) f))) = f (q_do (q_do M (0, 0, len, 0)) (1, a, k, n)) := by
  rw [q_ck (q_gnaA hn hx hA hl hv h5), q_lt, q_ck (q_gvO hO (by show a < ir_nx M + 1; omega) (by omega) (by show ir_nx M < ir_nx M + 1; omega)), q_lt, hn, hl]
  rfl
/-- a new object, its constructor, and a pointer to it written -/
theorem q_ao {g : Nat → ir_M → ir_R} {c2 nf : Nat} {M2 : ir_M} (hn : ir_nx M = n) (hx : ir_ex M = true) (h2 : q_kO n c2 = true) (hg : g n (q_do M (0, 0, nf, 0)) = ir_oV M2) (hO : q_kO a c = true) (ha : a < n) (hm : n < ir_nx M2) :
    ir_ck (ir_gn M c2) (ir_lt (ir_al M nf) (fun M1 => ir_cV (g (ir_nx M) M1) (fun M2 => ir_ck (ir_gv M2 a c (ir_nx M)) (ir_lt (ir_sP M2 a k (ir_nx M)) f)))) = f (q_do M2 (1, a, k, n)) := by
  rw [q_ck (q_gnO hn hx h2), q_lt, hn]
  rw [show g n (ir_al M nf) = ir_oV M2 from hg]
  show ir_ck (ir_gv M2 a c n) (f (ir_sP M2 a k n)) = _
  rw [q_ck (q_gvO hO (by omega) (by omega) hm)]
  rfl
end QC
/-- n: at the next address -/
theorem q_n1 {M : ir_M} {n a k v : Nat} {len : Nat} (hn : ir_nx M = n) : ir_nx (q_do (q_do M (0, 0, len, 0)) (1, a, k, v)) = n + 1 := congrArg (· + 1) hn
theorem q_x1 {M : ir_M} {a k v len : Nat} (hx : ir_ex M = true) : ir_ex (q_do (q_do M (0, 0, len, 0)) (1, a, k, v)) = true := hx
def q_A8 (a : Nat) : List (Nat × Nat × Nat × Nat) := [(0, 0, 8, 0), (1, a, 4, a + 1), (0, 0, 8, 0), (1, a, 5, a + 2), (0, 0, 8, 0), (1, a, 6, a + 3), (0, 0, 8, 0), (1, a, 7, a + 4), (0, 0, 8, 0), (1, a, 8, a + 5)]
def q_kS (a : Nat) : Bool := q_kO a 8 && (q_kA (a + 1) 100 8 && (q_kA (a + 2) 100 8 && (q_kA (a + 3) 100 8 && (q_kA (a + 4) 100 8 && q_kA (a + 5) 100 8))))
theorem q_X8 {d a : Nat} {M : ir_M} (hn : ir_nx M = a + 1) (hx : ir_ex M = true) (hk : q_kS a = true) : m_X8_init (d + 1) a M = ir_oV (q_run (q_A8 a) M) := by
  obtain ⟨k0, hk⟩ := ir_and hk
  obtain ⟨k1, hk⟩ := ir_and hk
  obtain ⟨k2, hk⟩ := ir_and hk
  obtain ⟨k3, hk⟩ := ir_and hk
  obtain ⟨k4, k5⟩ := ir_and hk
  rw [e_X8_init]
  refine (q_ap hn hx k1 (by decide +kernel) (by decide +kernel) (by decide +kernel) k0 (by omega)).trans ?_
  refine (q_ap (q_n1 hn) (q_x1 hx) k2 (by decide +kernel) (by decide +kernel) (by decide +kernel) k0 (by omega)).trans ?_
  refine (q_ap (q_n1 (q_n1 hn)) (q_x1 (q_x1 hx)) k3 (by decide +kernel) (by decide +kernel) (by decide +kernel) k0 (by omega)).trans ?_
  refine (q_ap (q_n1 (q_n1 (q_n1 hn))) (q_x1 (q_x1 (q_x1 hx))) k4 (by decide +kernel) (by decide +kernel) (by decide +kernel) k0 (by omega)).trans ?_
  exact q_ap (q_n1 (q_n1 (q_n1 (q_n1 hn)))) (q_x1 (q_x1 (q_x1 (q_x1 hx)))) k5 (by decide +kernel) (by decide +kernel) (by decide +kernel) k0 (by omega)
def q_A1 (a : Nat) : List (Nat × Nat × Nat × Nat) := [(0, 0, 900, 0), (1, a, 1, a + 1), (0, 0, 64, 0), (1, a, 2, a + 2)]
def q_kL (a : Nat) : Bool := q_kO a 1 && (q_kA (a + 1) 100 900 && q_kA (a + 2) 100 64)
theorem q_X1 {d a : Nat} {M : ir_M} (hn : ir_nx M = a + 1) (hx : ir_ex M = true) (hk : q_kL a = true) : m_X1_init (d + 1) a M = ir_oV (q_run (q_A1 a) M) := by
  obtain ⟨k0, hk⟩ := ir_and hk
  obtain ⟨k1, k2⟩ := ir_and hk
  rw [e_X1_init]
  refine (q_ap hn hx k1 (by decide +kernel) (by decide +kernel) (by decide +kernel) k0 (by omega)).trans ?_
  exact q_ap (q_n1 hn) (q_x1 hx) k2 (by decide +kernel) (by decide +kernel) (by decide +kernel) k0 (by omega)
/-! the same, with the memory behind each step under a name -/
section QD
variable {M : ir_M} {a c k n ka len : Nat} {v : Int32} {f : ir_M → ir_R} {R : ir_R}
theorem q_ap2 (hn : ir_nx M = n) (hx : ir_ex M = true) (hA : q_kA n ka len = true) (hO : q_kO a c = true) (ha : a < n) (hl : v.toNatClampNeg = len) (hv : ¬ v < 0) (h5 : len ≤ 5000)
    (kk : ∀ M', M' = q_run [(0, 0, len, 0), (1, a, k, n)] M → ir_nx M' = n + 1 → ir_ex M' = true → f M' = R) :
    ir_ck (ir_gna M ka v) (ir_lt (ir_al M v.toNatClampNeg) (fun M1 => ir_ck (ir_gv M1 a c (ir_nx M)) (ir_lt (ir_sP M1 a k (ir_nx M)) f))) = R :=
  (q_ap hn hx hA hl hv h5 hO ha).trans (kk _ rfl (q_n1 hn) (q_x1 hx))
theorem q_ao2 {g : Nat → ir_M → ir_R} {c2 nf : Nat} {A : List (Nat × Nat × Nat × Nat)} (hn : ir_nx M = n) (hx : ir_ex M = true) (h2 : q_kO n c2 = true) (hO : q_kO a c = true) (ha : a < n)
    (hg : ∀ M1, ir_nx M1 = n + 1 → ir_ex M1 = true → g n M1 = ir_oV (q_run A M1))
    (kk : ∀ M', M' = q_run ((0, 0, nf, 0) :: (A ++ [(1, a, k, n)])) M → ir_nx M' = n + 1 + q_cnt A → ir_ex M' = true → f M' = R) :
    ir_ck (ir_gn M c2) (ir_lt (ir_al M nf) (fun M1 => ir_cV (g (ir_nx M) M1) (fun M2 => ir_ck (ir_gv M2 a c (ir_nx M)) (ir_lt (ir_sP M2 a k (ir_nx M)) f)))) = R := by
  have hn1 : ir_nx (q_do M (0, 0, nf, 0)) = n + 1 := congrArg (· + 1) hn
  have hx1 : ir_ex (q_do M (0, 0, nf, 0)) = true := hx
  have hnx : ir_nx (q_run A (q_do M (0, 0, nf, 0))) = n + 1 + q_cnt A := by rw [q_run_nx, hn1]
  have hxx : ir_ex (q_run A (q_do M (0, 0, nf, 0))) = true := by rw [q_run_ex]; exact hx1
  refine (q_ao hn hx h2 (hg _ hn1 hx1) hO ha (by omega)).trans (kk _ ?_ hnx hxx)
  show _ = q_run (A ++ [(1, a, k, n)]) (q_do M (0, 0, nf, 0))
  rw [q_run_app]
  rfl
theorem q_oV {A B : ir_M} (h : A = B) : ir_oV A = ir_oV B := by rw [h]
end QD
def q_A9 (a : Nat) : List (Nat × Nat × Nat × Nat) := [(2, a, 4, 1), (0, 0, 8, 0), (1, a, 7, a + 1), (0, 0, 8, 0), (1, a, 8, a + 2), (0, 0, 3, 0)] ++ (q_A1 (a + 3) ++ [(1, a, 9, a + 3), (0, 0, 48, 0), (1, a, 10, a + 6), (0, 0, 64, 0), (1, a, 11, a + 7)])
def q_kT (a : Nat) : Bool := q_kO a 9 && (q_kA (a + 1) 100 8 && (q_kA (a + 2) 100 8 && (q_kL (a + 3) && (q_kA (a + 6) 100 48 && q_kA (a + 7) 100 64))))
theorem q_X9 {d a : Nat} {M : ir_M} (hn : ir_nx M = a + 1) (hx : ir_ex M = true) (hk : q_kT a = true) : m_X9_init (d + 2) a M = ir_oV (q_run (q_A9 a) M) := by
  obtain ⟨k0, hk⟩ := ir_and hk
  obtain ⟨k1, hk⟩ := ir_and hk
  obtain ⟨k2, hk⟩ := ir_and hk
  obtain ⟨k3, hk⟩ := ir_and hk
  obtain ⟨k4, k5⟩ := ir_and hk
  rw [e_X9_init, q_ck (q_gqO k0 (by omega)), q_lt]
  obtain ⟨M1, e1⟩ : ∃ M1, M1 = ir_sI M a 4 1 := ⟨_, rfl⟩
  have n1 : ir_nx M1 = a + 1 := by rw [e1]; exact hn
  have x1 : ir_ex M1 = true := by rw [e1]; exact hx
  rw [← e1]
  refine q_ap2 n1 x1 k1 k0 (by omega) (by decide +kernel) (by decide +kernel) (by decide +kernel) (fun M2 e2 n2 x2 => ?_)
  refine q_ap2 n2 x2 k2 k0 (by omega) (by decide +kernel) (by decide +kernel) (by decide +kernel) (fun M3 e3 n3 x3 => ?_)
  refine q_ao2 (A := q_A1 (a + 3)) n3 x3 (ir_and k3).1 k0 (by omega) (fun M9 h9 x9 => q_X1 h9 x9 k3) (fun M4 e4 n4 x4 => ?_)
  refine q_ap2 (n := a + 6) n4 x4 k4 k0 (by omega) (by decide +kernel) (by decide +kernel) (by decide +kernel) (fun M5 e5 n5 x5 => ?_)
  refine q_ap2 n5 x5 k5 k0 (by omega) (by decide +kernel) (by decide +kernel) (by decide +kernel) (fun M6 e6 n6 x6 => ?_)
  refine q_oV ?_
  rw [e6, e5, e4, e3, e2, e1]
  rfl
def q_A0 (a : Nat) : List (Nat × Nat × Nat × Nat) := [(0, 0, 11, 0), (1, a, 0, a + 1), (0, 0, 8, 0), (1, a, 1, a + 2), (0, 0, 8, 0), (1, a, 2, a + 3), (0, 0, 8, 0), (1, a, 3, a + 4)]
def q_kd0 (a : Nat) : Bool := q_kO a 0 && (q_kA (a + 1) 100 11 && (q_kA (a + 2) 100 8 && (q_kA (a + 3) 100 8 && q_kA (a + 4) 100 8)))
theorem q_X0 {d a : Nat} {M : ir_M} (hn : ir_nx M = a + 1) (hx : ir_ex M = true) (hk : q_kd0 a = true) : m_X0_init (d + 1) a M = ir_oV (q_run (q_A0 a) M) := by
  obtain ⟨k0, hk⟩ := ir_and hk
  obtain ⟨k1, hk⟩ := ir_and hk
  obtain ⟨k2, hk⟩ := ir_and hk
  obtain ⟨k3, hk⟩ := ir_and hk
  rw [e_X0_init]
  refine q_ap2 hn hx k1 k0 (by omega) (by decide +kernel) (by decide +kernel) (by decide +kernel) (fun M1 e1 n1 x1 => ?_)
  refine q_ap2 n1 x1 k2 k0 (by omega) (by decide +kernel) (by decide +kernel) (by decide +kernel) (fun M2 e2 n2 x2 => ?_)
  refine q_ap2 n2 x2 k3 k0 (by omega) (by decide +kernel) (by decide +kernel) (by decide +kernel) (fun M3 e3 n3 x3 => ?_)
  refine q_ap2 n3 x3 hk k0 (by omega) (by decide +kernel) (by decide +kernel) (by decide +kernel) (fun M4 e4 n4 x4 => ?_)
  refine q_oV ?_
  rw [e4, e3, e2, e1]
  rfl
def q_A2 (a : Nat) : List (Nat × Nat × Nat × Nat) := [(0, 0, 8, 0), (1, a, 4, a + 1), (0, 0, 8, 0), (1, a, 6, a + 2), (0, 0, 64, 0), (1, a, 7, a + 3)]
def q_kd2 (a : Nat) : Bool := q_kO a 2 && (q_kA (a + 1) 100 8 && (q_kA (a + 2) 100 8 && q_kA (a + 3) 100 64))
theorem q_X2 {d a : Nat} {M : ir_M} (hn : ir_nx M = a + 1) (hx : ir_ex M = true) (hk : q_kd2 a = true) : m_X2_init (d + 1) a M = ir_oV (q_run (q_A2 a) M) := by
  obtain ⟨k0, hk⟩ := ir_and hk
  obtain ⟨k1, hk⟩ := ir_and hk
  obtain ⟨k2, hk⟩ := ir_and hk
  rw [e_X2_init]
  refine q_ap2 hn hx k1 k0 (by omega) (by decide +kernel) (by decide +kernel) (by decide +kernel) (fun M1 e1 n1 x1 => ?_)
  refine q_ap2 n1 x1 k2 k0 (by omega) (by decide +kernel) (by decide +kernel) (by decide +kernel) (fun M2 e2 n2 x2 => ?_)
  refine q_ap2 n2 x2 hk k0 (by omega) (by decide +kernel) (by decide +kernel) (by decide +kernel) (fun M3 e3 n3 x3 => ?_)
  refine q_oV ?_
  rw [e3, e2, e1]
  rfl
def q_A3 (a : Nat) : List (Nat × Nat × Nat × Nat) := [(0, 0, 3, 0), (1, a, 1, a + 1), (0, 0, 3, 0), (1, a, 5, a + 2), (0, 0, 3, 0), (1, a, 6, a + 3)]
def q_kd3 (a : Nat) : Bool := q_kO a 3 && (q_kA (a + 1) 100 3 && (q_kA (a + 2) 100 3 && q_kA (a + 3) 100 3))
theorem q_X3 {d a : Nat} {M : ir_M} (hn : ir_nx M = a + 1) (hx : ir_ex M = true) (hk : q_kd3 a = true) : m_X3_init (d + 1) a M = ir_oV (q_run (q_A3 a) M) := by
  obtain ⟨k0, hk⟩ := ir_and hk
  obtain ⟨k1, hk⟩ := ir_and hk
  obtain ⟨k2, hk⟩ := ir_and hk
  rw [e_X3_init]
  refine q_ap2 hn hx k1 k0 (by omega) (by decide +kernel) (by decide +kernel) (by decide +kernel) (fun M1 e1 n1 x1 => ?_)
  refine q_ap2 n1 x1 k2 k0 (by omega) (by decide +kernel) (by decide +kernel) (by decide +kernel) (fun M2 e2 n2 x2 => ?_)
  refine q_ap2 n2 x2 hk k0 (by omega) (by decide +kernel) (by decide +kernel) (by decide +kernel) (fun M3 e3 n3 x3 => ?_)
  refine q_oV ?_
  rw [e3, e2, e1]
  rfl
def q_A7 (a : Nat) : List (Nat × Nat × Nat × Nat) := [(0, 0, 256, 0), (1, a, 0, a + 1), (0, 0, 8, 0), (1, a, 1, a + 2), (0, 0, 11, 0), (1, a, 2, a + 3)]
def q_kd7 (a : Nat) : Bool := q_kO a 7 && (q_kA (a + 1) 100 256 && (q_kA (a + 2) 100 8 && q_kA (a + 3) 100 11))
theorem q_X7 {d a : Nat} {M : ir_M} (hn : ir_nx M = a + 1) (hx : ir_ex M = true) (hk : q_kd7 a = true) : m_X7_init (d + 1) a M = ir_oV (q_run (q_A7 a) M) := by
  obtain ⟨k0, hk⟩ := ir_and hk
  obtain ⟨k1, hk⟩ := ir_and hk
  obtain ⟨k2, hk⟩ := ir_and hk
  rw [e_X7_init]
  refine q_ap2 hn hx k1 k0 (by omega) (by decide +kernel) (by decide +kernel) (by decide +kernel) (fun M1 e1 n1 x1 => ?_)
  refine q_ap2 n1 x1 k2 k0 (by omega) (by decide +kernel) (by decide +kernel) (by decide +kernel) (fun M2 e2 n2 x2 => ?_)
  refine q_ap2 n2 x2 hk k0 (by omega) (by decide +kernel) (by decide +kernel) (by decide +kernel) (fun M3 e3 n3 x3 => ?_)
  refine q_oV ?_
  rw [e3, e2, e1]
  rfl
def q_A6 (a : Nat) : List (Nat × Nat × Nat × Nat) := [(0, 0, 8, 0), (1, a, 0, a + 1), (0, 0, 8, 0), (1, a, 1, a + 2), (0, 0, 8, 0), (1, a, 2, a + 3), (0, 0, 8, 0), (1, a, 3, a + 4), (0, 0, 64, 0), (1, a, 4, a + 5), (0, 0, 64, 0), (1, a, 5, a + 6)]
def q_kd6 (a : Nat) : Bool := q_kO a 6 && (q_kA (a + 1) 100 8 && (q_kA (a + 2) 100 8 && (q_kA (a + 3) 100 8 && (q_kA (a + 4) 103 8 && (q_kA (a + 5) 101 64 && q_kA (a + 6) 101 64)))))
theorem q_X6 {d a : Nat} {M : ir_M} (hn : ir_nx M = a + 1) (hx : ir_ex M = true) (hk : q_kd6 a = true) : m_X6_init (d + 1) a M = ir_oV (q_run (q_A6 a) M) := by
  obtain ⟨k0, hk⟩ := ir_and hk
  obtain ⟨k1, hk⟩ := ir_and hk
  obtain ⟨k2, hk⟩ := ir_and hk
  obtain ⟨k3, hk⟩ := ir_and hk
  obtain ⟨k4, hk⟩ := ir_and hk
  obtain ⟨k5, hk⟩ := ir_and hk
  rw [e_X6_init]
  refine q_ap2 hn hx k1 k0 (by omega) (by decide +kernel) (by decide +kernel) (by decide +kernel) (fun M1 e1 n1 x1 => ?_)
  refine q_ap2 n1 x1 k2 k0 (by omega) (by decide +kernel) (by decide +kernel) (by decide +kernel) (fun M2 e2 n2 x2 => ?_)
  refine q_ap2 n2 x2 k3 k0 (by omega) (by decide +kernel) (by decide +kernel) (by decide +kernel) (fun M3 e3 n3 x3 => ?_)
  refine q_ap2 n3 x3 k4 k0 (by omega) (by decide +kernel) (by decide +kernel) (by decide +kernel) (fun M4 e4 n4 x4 => ?_)
  refine q_ap2 n4 x4 k5 k0 (by omega) (by decide +kernel) (by decide +kernel) (by decide +kernel) (fun M5 e5 n5 x5 => ?_)
  refine q_ap2 n5 x5 hk k0 (by omega) (by decide +kernel) (by decide +kernel) (by decide +kernel) (fun M6 e6 n6 x6 => ?_)
  refine q_oV ?_
  rw [e6, e5, e4, e3, e2, e1]
  rfl
/-! a tray -/
def q_A10 (a : Nat) : List (Nat × Nat × Nat × Nat) := [(2, a, 0, 1), (0, 0, 30, 0), (1, a, 3, a + 1)]
def q_kY (a : Nat) : Bool := q_kO a 10 && q_kA (a + 1) 101 30
theorem q_X10 {d a : Nat} {M : ir_M} (hn : ir_nx M = a + 1) (hx : ir_ex M = true) (hk : q_kY a = true) : m_X10_init (d + 1) a M = ir_oV (q_run (q_A10 a) M) := by
  obtain ⟨k0, k1⟩ := ir_and hk
  rw [e_X10_init, q_ck (by rw [q_gqO k0 (by omega)]; rfl), q_lt]
  obtain ⟨M1, e1⟩ : ∃ M1, M1 = ir_sI M a 0 1 := ⟨_, rfl⟩
  have n1 : ir_nx M1 = a + 1 := by rw [e1]; exact hn
  have x1 : ir_ex M1 = true := by rw [e1]; exact hx
  rw [← e1]
  refine q_ap2 n1 x1 k1 k0 (by omega) (by decide +kernel) (by decide +kernel) (by decide +kernel) (fun M2 e2 n2 x2 => ?_)
  refine q_oV ?_
  rw [e2, e1]
  rfl
/-! a scene: its States that are kept are laid by a loop -/
def q_kp (a : Nat) : Nat → Nat → List (Nat × Nat × Nat × Nat)
  | _, 0 => []
  | i, k + 1 => (0, 0, 9, 0) :: (q_A8 (a + 16 + 6 * i) ++ ((1, a + 15, i, a + 16 + 6 * i) :: q_kp a (i + 1) k))
theorem q_A8_P {M : ir_M} {b x y : Nat} (h : x ≠ b) : (q_run (q_A8 b) M).2.2.1 x y = M.2.2.1 x y := by
  rw [q_run_P]
  show (if x = b then _ else (if x = b then _ else (if x = b then _ else (if x = b then _ else (if x = b then _ else M.2.2.1 x y))))) = M.2.2.1 x y
  rw [if_neg h, if_neg h, if_neg h, if_neg h, if_neg h]
def q_kK (a : Nat) : Bool := q_kO a 5 && (q_kA (a + 15) 105 12 && (List.range 12).all (fun i => q_kS (a + 16 + 6 * i)))
theorem q_gwA {M : ir_M} {a c n i : Nat} (h : q_kA a c n = true) (ha : a < ir_nx M) (hi : i < n) (hn : n < 2 ^ 31) : ir_gw M a c (nI i) = true := by
  obtain ⟨h1, h2, h3⟩ := q_kA_inv h
  have h4 : q_kO a c = true := by
    unfold q_kO
    rw [h1, q_beq, ir_blt_t h2]
    rfl
  unfold ir_gw ir_ga
  rw [q_gkO h4 ha, q_ln_eq h2, h3, q_inb hi hn, ir_blt_t h2]
  rfl
theorem q_gpP {M : ir_M} {a c k v : Nat} (h : q_kO a c = true) (ha : a < ir_nx M) (hp : ir_P M a k = v) (h0 : 0 < v) : ir_gp M a c k = true := by
  unfold ir_gp
  rw [q_gkO h ha, hp, ir_blt_t h0]
  rfl
theorem q_X5k {d a : Nat} (hk : q_kK a = true) : ∀ (k i : Nat) (M : ir_M), i + k = 12 → ir_nx M = a + 16 + 6 * i → ir_ex M = true → ir_P M a 4 = a + 15 → v_X5_init_37 (d + 1) a (nI i) M = ir_oV (q_run (q_kp a i k) M) := by
  obtain ⟨k0, hk⟩ := ir_and hk
  obtain ⟨k1, k2⟩ := ir_and hk
  intro k
  induction k with
  | zero =>
    intro i M hi hn hx hp
    have : i = 12 := by omega
    subst this
    rw [l_X5_init_37, if_neg (by decide +kernel)]
    rfl
  | succ k ih =>
    intro i M hi hn hx hp
    have hS : q_kS (a + 16 + 6 * i) = true := List.all_eq_true.mp k2 i (List.mem_range.mpr (by omega))
    rw [l_X5_init_37, if_pos (show nI i < 12 from nI_lt (a := i) (b := 12) (by omega) (by decide)), q_ck (q_gpP k0 (by omega) hp (by omega)), q_ck (q_gnO hn hx (ir_and hS).1), q_lt]
    obtain ⟨M1, e1⟩ : ∃ M1, M1 = ir_al M 9 := ⟨_, rfl⟩
    have n1 : ir_nx M1 = a + 16 + 6 * i + 1 := by rw [e1]; show ir_nx M + 1 = _; omega
    have x1 : ir_ex M1 = true := by rw [e1]; exact hx
    have p1 : ir_P M1 a 4 = a + 15 := by rw [e1]; exact hp
    rw [← e1, hn, hp, q_X8 n1 x1 hS]
    obtain ⟨M2, e2⟩ : ∃ M2, M2 = q_run (q_A8 (a + 16 + 6 * i)) M1 := ⟨_, rfl⟩
    have n2 : ir_nx M2 = a + 16 + 6 * (i + 1) := by rw [e2, q_run_nx, n1]; show a + 16 + 6 * i + 1 + 5 = _; omega
    have x2 : ir_ex M2 = true := by rw [e2, q_run_ex]; exact x1
    have p2 : ir_P M2 a 4 = a + 15 := by
      rw [e2]
      show (q_run (q_A8 (a + 16 + 6 * i)) M1).2.2.1 a 4 = _
      rw [q_A8_P (by omega)]
      exact p1
    rw [← e2]
    show ir_ck _ (ir_lt _ _) = _
    rw [q_gwA k1 (by omega) (by omega) (by decide), q_gkO (ir_and hS).1 (by omega), ir_blt_t (show 0 < a + 16 + 6 * i by omega), ir_blt_t (show a + 16 + 6 * i < ir_nx M2 by omega)]
    rw [q_ck (by rfl), q_lt, nI_clamp (by omega), nI_1]
    obtain ⟨M3, e3⟩ : ∃ M3, M3 = ir_sP M2 (a + 15) i (a + 16 + 6 * i) := ⟨_, rfl⟩
    rw [← e3, ih (i + 1) M3 (by omega) (by rw [e3]; exact n2) (by rw [e3]; exact x2) ?_]
    · refine q_oV ?_
      rw [e3, e2, e1]
      show _ = q_run (q_A8 (a + 16 + 6 * i) ++ ((1, a + 15, i, a + 16 + 6 * i) :: q_kp a (i + 1) k)) (ir_al M 9)
      rw [q_run_app]
      rfl
    · rw [e3]
      show (ir_sP M2 (a + 15) i (a + 16 + 6 * i)).2.2.1 a 4 = _
      rw [q_do_P, if_neg (by omega)]
      exact p2
def q_A5 (a : Nat) : List (Nat × Nat × Nat × Nat) := ((0, 0, 12, 0) :: (q_A9 (a + 1) ++ [(1, a, 0, a + 1)])) ++ (((0, 0, 9, 0) :: (q_A8 (a + 9) ++ [(1, a, 1, a + 9)])) ++ ([(0, 0, 12, 0), (1, a, 4, a + 15)] ++ q_kp a 0 12))
def q_kC (a : Nat) : Bool := q_kK a && (q_kT (a + 1) && q_kS (a + 9))
theorem q_X5 {d a : Nat} {M : ir_M} (hn : ir_nx M = a + 1) (hx : ir_ex M = true) (hk : q_kC a = true) : m_X5_init (d + 3) a M = ir_oV (q_run (q_A5 a) M) := by
  obtain ⟨hK, hk⟩ := ir_and hk
  obtain ⟨hT, hS⟩ := ir_and hk
  have k0 := (ir_and hK).1
  have k1 := (ir_and (ir_and hK).2).1
  rw [e_X5_init]
  refine q_ao2 (A := q_A9 (a + 1)) hn hx (ir_and hT).1 k0 (by omega) (fun M9 h9 x9 => q_X9 h9 x9 hT) (fun M1 e1 n1 x1 => ?_)
  refine q_ao2 (n := a + 9) (A := q_A8 (a + 9)) n1 x1 (ir_and hS).1 k0 (by omega) (fun M9 h9 x9 => q_X8 h9 x9 hS) (fun M2 e2 n2 x2 => ?_)
  refine q_ap2 (n := a + 15) n2 x2 k1 k0 (by omega) (by decide +kernel) (by decide +kernel) (by decide +kernel) (fun M3 e3 n3 x3 => ?_)
  rw [show (0 : Int32) = nI 0 from rfl, q_X5k hK 12 0 M3 rfl (by rw [n3]) x3 ?_]
  · refine q_oV ?_
    rw [e3, e2, e1]
    unfold q_A5
    rw [q_run_app, q_run_app, q_run_app]
  · rw [e3]
    show (ir_sP (ir_al M2 12) a 4 (a + 15)).2.2.1 a 4 = _
    rw [q_do_P, if_pos rfl, if_pos rfl]
