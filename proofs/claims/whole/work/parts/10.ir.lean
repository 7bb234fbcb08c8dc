/-! THE INTERPRETER: what an instruction does to (pc, locals, stack, memory), as a pure function. F: go on in this method; G: a call. -/
abbrev ir_M : Type := (Nat → Nat → Int32) × (Nat → Nat → Int64) × (Nat → Nat → Nat) × (Nat × Nat × Nat × Bool)
abbrev ir_L : Type := List (Option Value)
abbrev ir_R : Type := Option ((Option Value ⊕ Nat) × ir_M)
abbrev ir_F : Type := Nat → ir_L → List Value → ir_M → ir_R
abbrev ir_G : Type := Nat → List Value → ir_M → ir_R
abbrev ir_H : Type := List (Nat × Nat × Nat × Nat × Nat)
def ir_I (M : ir_M) (a k : Nat) : Int32 := M.1 a k
def ir_J (M : ir_M) (a k : Nat) : Int64 := M.2.1 a k
def ir_P (M : ir_M) (a k : Nat) : Nat := M.2.2.1 a k
def ir_nx (M : ir_M) : Nat := M.2.2.2.1
def ir_nc (M : ir_M) : Nat := M.2.2.2.2.1
def ir_ns (M : ir_M) : Nat := M.2.2.2.2.2.1
def ir_ex (M : ir_M) : Bool := M.2.2.2.2.2.2
def ir_sI (M : ir_M) (a k : Nat) (v : Int32) : ir_M := (fun x => if x = a then upd (M.1 a) k v else M.1 x, M.2)
def ir_sJ (M : ir_M) (a k : Nat) (v : Int64) : ir_M := (M.1, fun x => if x = a then vp_updL (M.2.1 a) k v else M.2.1 x, M.2.2)
def ir_sP (M : ir_M) (a k : Nat) (v : Nat) : ir_M := (M.1, M.2.1, fun x => if x = a then (fun j => if j = k then v else M.2.2.1 a j) else M.2.2.1 x, M.2.2.2)
def ir_cp (M : ir_M) (s sp d dp n : Nat) : ir_M := (fun x => if x = d then va_cpy (M.1 s) (M.1 d) sp dp n else M.1 x, M.2)
def ir_al (M : ir_M) (k : Nat) : ir_M := (M.1, M.2.1, M.2.2.1, (M.2.2.2.1 + 1, M.2.2.2.2.1 + 1, M.2.2.2.2.2.1 + k, M.2.2.2.2.2.2))
def ir_th (M : ir_M) : ir_M := (M.1, M.2.1, M.2.2.1, (M.2.2.2.1, M.2.2.2.2.1 + 1, M.2.2.2.2.2.1 + 6, false))
def ir_nth {α : Type} : List α → Nat → Option α
  | [], _ => none
  | a :: _, 0 => some a
  | _ :: l, n + 1 => ir_nth l n
def ir_lk {α : Type} : List (Nat × α) → Nat → Option α
  | [], _ => none
  | (k, v) :: l, n => match Nat.beq n k with
    | true => some v
    | false => ir_lk l n
def ir_mem (n : Nat) : List Nat → Bool
  | [] => false
  | k :: l => match Nat.beq n k with
    | true => true
    | false => ir_mem n l
def ir_ck (b : Bool) (r : ir_R) : ir_R := match b with
  | true => r
  | false => none
def ir_kd (a : Nat) : Nat := match Nat.blt a 1000000 with
  | true => (match ir_nth ir_lay (a / 16) with
    | some l => (match ir_nth l (a % 16) with
      | some q => q.1
      | none => 99)
    | none => 99)
  | false => if 1000000 ≤ a ∧ a < 1000055 then 50 else if 1100000 ≤ a ∧ a < 1100055 then 102 else if a = 2000000 ∨ a = 3000000 then 100 else 99
def ir_ln (M : ir_M) (a : Nat) : Nat := match Nat.blt a 1000000 with
  | true => (match ir_nth ir_lay (a / 16) with
    | some l => (match ir_nth l (a % 16) with
      | some q => q.2
      | none => 0)
    | none => 0)
  | false => (M.2.1 a 0).toInt.toNat
def ir_gk (M : ir_M) (a c : Nat) : Bool := Nat.beq (ir_kd a) c && (Nat.blt a (ir_nx M) || Nat.ble 1000000 a)
def ir_inb (i : Int32) (n : Nat) : Bool := !(decide (i < 0)) && decide (i.toNatClampNeg < n)
def ir_ga (M : ir_M) (a c : Nat) (i : Int32) : Bool := ir_gk M a c && ir_inb i (ir_ln M a)
def ir_gw (M : ir_M) (a c : Nat) (i : Int32) : Bool := ir_ga M a c i && Nat.blt a 1000000
/-- a field that holds an object; one that may be written; one that may be given the object v; a stretch that may be copied -/
def ir_gp (M : ir_M) (a c k : Nat) : Bool := ir_gk M a c && Nat.blt 0 (ir_P M a k)
def ir_gq (M : ir_M) (a c : Nat) : Bool := ir_gk M a c && Nat.blt a 1000000
def ir_gv (M : ir_M) (a c v : Nat) : Bool := ir_gk M a c && Nat.blt a 1000000 && Nat.blt 0 v && Nat.blt v (ir_nx M)
def ir_cpg (M : ir_M) (s : Nat) (sp : Int32) (d : Nat) (dp k : Int32) : Bool := ir_gk M s 100 && ir_gk M d 100 && Nat.blt s 1000000 && Nat.blt d 1000000 && !(decide (sp < 0)) && !(decide (dp < 0)) && !(decide (k < 0)) && Nat.ble (sp.toNatClampNeg + k.toNatClampNeg) (ir_ln M s) && Nat.ble (dp.toNatClampNeg + k.toNatClampNeg) (ir_ln M d)
def ir_gn (M : ir_M) (c : Nat) : Bool := Nat.beq (ir_kd (ir_nx M)) c && Nat.blt (ir_nx M) 1000000 && ir_ex M
def ir_gna (M : ir_M) (c : Nat) (v : Int32) : Bool := ir_gn M c && !(decide (v < 0)) && Nat.beq (ir_ln M (ir_nx M)) v.toNatClampNeg && Nat.ble v.toNatClampNeg 5000
def ir_gl (M : ir_M) (a : Nat) : Bool := Nat.ble 100 (ir_kd a) && (Nat.blt a (ir_nx M) || Nat.ble 1000000 a)
def ir_isB (v : Int32) : Bool := decide (v = 0) || decide (v = 1)
def ir_nar (c : Nat) (v : Int32) : Bool := match c with
  | 0 => true
  | 1 => ir_isB v
  | 2 => decide (v.toInt8.toInt32 = v)
  | _ => decide (v.toUInt32.toUInt16.toUInt32.toInt32 = v)
def ir_bst (c : Nat) (v : Int32) : Int32 := if c = 102 then v.toInt8.toInt32 else vp_nar .boolean v
def ir_dI (b : Int32) (r : ir_R) : ir_R := match decide (b = 0) with
  | true => none
  | false => r
def ir_dJ (b : Int64) (r : ir_R) : ir_R := match decide (b = 0) with
  | true => none
  | false => r
def ir_i1 (st : List Value) (k : Int32 → List Value → ir_R) : ir_R := match st with
  | .int a :: r => k a r
  | _ => none
def ir_i2 (st : List Value) (k : Int32 → Int32 → List Value → ir_R) : ir_R := match st with
  | .int b :: .int a :: r => k a b r
  | _ => none
def ir_l1 (st : List Value) (k : Int64 → List Value → ir_R) : ir_R := match st with
  | .long a :: r => k a r
  | _ => none
def ir_l2 (st : List Value) (k : Int64 → Int64 → List Value → ir_R) : ir_R := match st with
  | .long b :: .long a :: r => k a b r
  | _ => none
def ir_li (st : List Value) (k : Int64 → Int32 → List Value → ir_R) : ir_R := match st with
  | .int b :: .long a :: r => k a b r
  | _ => none
def ir_r1 (st : List Value) (k : Nat → List Value → ir_R) : ir_R := match st with
  | .ref a :: r => k a r
  | _ => none
def ir_ri (st : List Value) (k : Nat → Int32 → List Value → ir_R) : ir_R := match st with
  | .int i :: .ref a :: r => k a i r
  | _ => none
def ir_rii (st : List Value) (k : Nat → Int32 → Int32 → List Value → ir_R) : ir_R := match st with
  | .int v :: .int i :: .ref a :: r => k a i v r
  | _ => none
def ir_ril (st : List Value) (k : Nat → Int32 → Int64 → List Value → ir_R) : ir_R := match st with
  | .long v :: .int i :: .ref a :: r => k a i v r
  | _ => none
def ir_rir (st : List Value) (k : Nat → Int32 → Nat → List Value → ir_R) : ir_R := match st with
  | .ref v :: .int i :: .ref a :: r => k a i v r
  | _ => none
def ir_ld (L : ir_L) (x : List Nat) : Option Value := match x with
  | i :: _ => (match ir_nth L i with
    | some (some v) => some v
    | _ => none)
  | [] => none
def ir_mi (o : Option Value) (k : Int32 → ir_R) : ir_R := match o with
  | some (.int v) => k v
  | _ => none
def ir_mj (o : Option Value) (k : Int64 → ir_R) : ir_R := match o with
  | some (.long v) => k v
  | _ => none
def ir_mr (o : Option Value) (k : Nat → ir_R) : ir_R := match o with
  | some (.ref v) => k v
  | _ => none
/-- a local slot that no longer holds the first half of a long -/
def ir_kl : Option Value → Option Value
  | some (.long _) => none
  | some (.double _) => none
  | o => o
/-- v comes to place n of the locals: the new row is laid out at once -/
def ir_pt (v : Value) (k : ir_L → ir_R) : Nat → ir_L → ir_R
  | 0, _ :: l => k (some v :: l)
  | 1, a :: _ :: l => k (ir_kl a :: some v :: l)
  | n + 2, a :: l => ir_pt v (fun l' => k (a :: l')) (n + 1) l
  | _, _ => none
def ir_pt2 (v : Value) (k : ir_L → ir_R) : Nat → ir_L → ir_R
  | 0, _ :: _ :: l => k (some v :: none :: l)
  | 1, a :: _ :: _ :: l => k (ir_kl a :: some v :: none :: l)
  | n + 2, a :: l => ir_pt2 v (fun l' => k (a :: l')) (n + 1) l
  | _, _ => none
def ir_s1 (L : ir_L) (x : List Nat) (v : Value) (k : ir_L → ir_R) : ir_R := match x with
  | i :: _ => ir_pt v k i L
  | [] => none
def ir_s2 (L : ir_L) (x : List Nat) (v : Value) (k : ir_L → ir_R) : ir_R := match x with
  | i :: _ => ir_pt2 v k i L
  | [] => none
/-- n values off the stack, the lowest first -/
def ir_tk : Nat → List Value → List Value → (List Value → List Value → ir_R) → ir_R
  | 0, st, acc, f => f acc st
  | n + 1, a :: st, acc, f => ir_tk n st (a :: acc) f
  | _ + 1, [], _, _ => none
def ir_swt (k : Nat → ir_R) (a : Int32) (d : Nat) : List Nat → ir_R
  | c :: t :: l => if a = Int32.ofNat c then k t else ir_swt k a d l
  | _ => k d
def ir_bV (r : ir_R) (k : ir_M → ir_R) (h : Nat → ir_M → ir_R) : ir_R := match r with
  | some (.inl none, M) => k M
  | some (.inr e, M) => h e M
  | _ => none
def ir_bI (r : ir_R) (k : Int32 → ir_M → ir_R) (h : Nat → ir_M → ir_R) : ir_R := match r with
  | some (.inl (some (.int v)), M) => k v M
  | some (.inr e, M) => h e M
  | _ => none
def ir_bJ (r : ir_R) (k : Int64 → ir_M → ir_R) (h : Nat → ir_M → ir_R) : ir_R := match r with
  | some (.inl (some (.long v)), M) => k v M
  | some (.inr e, M) => h e M
  | _ => none
def ir_bP (r : ir_R) (k : Nat → ir_M → ir_R) (h : Nat → ir_M → ir_R) : ir_R := match r with
  | some (.inl (some (.ref v)), M) => k v M
  | some (.inr e, M) => h e M
  | _ => none
def ir_ms (k : ir_L → ir_R) : Nat → ir_L → ir_R
  | 0, _ :: l => k (none :: l)
  | 1, a :: _ :: l => k (ir_kl a :: none :: l)
  | n + 2, a :: l => ir_ms (fun l' => k (a :: l')) (n + 1) l
  | _, _ => none
def ir_hn (F : ir_F) (pc : Nat) (L : ir_L) (e : Nat) (M : ir_M) : ir_H → ir_R
  | [] => none
  | (f, t, c, s, p) :: l => match Nat.ble f pc && Nat.blt pc t with
    | true => if e = c then ir_ms (fun L' => F p L' [] M) s L else ir_hn F pc L e M l
    | false => ir_hn F pc L e M l
def ir_hx (F : ir_F) (pc : Nat) (L : ir_L) (e : Nat) (M : ir_M) (hd : ir_H) : ir_R := match hd with
  | [] => some (.inr e, M)
  | q :: l => ir_hn F pc L e M (q :: l)
/-- the locals of a method at its entry -/
def ir_arg : List Value → ir_L
  | [] => []
  | .long v :: l => some (.long v) :: none :: ir_arg l
  | .double v :: l => some (.double v) :: none :: ir_arg l
  | v :: l => some v :: ir_arg l
def ir_ml (y : Nat) : Nat := match ir_nth ir_mls (y / 16) with
  | some l => (match ir_nth l (y % 16) with
    | some n => n
    | none => 0)
  | none => 0
def ir_cat (v : Value) : Nat := v.category
def ir_room (st : List Value) : Bool := Nat.ble ((st.map ir_cat).sum) 8
/-- the stack below a call's arguments holds no more than the rules of calls want; its arguments fit its locals; a divisor that isn't 0 -/
def ir_rm (st : List Value) (r : ir_R) : ir_R := match ir_room st with
  | true => r
  | false => none
def ir_ft0 (y : Nat) (as : List Value) (r : ir_R) : ir_R := match Nat.ble (ir_arg as).length (ir_ml y) with
  | true => r
  | false => none
def ir_rcv (M : ir_M) (kind rc : Nat) (as : List Value) : Bool := match kind with
  | 2 => true
  | _ => (match as with
    | .ref b :: _ => (match kind with
      | 0 => ir_gk M b rc
      | _ => true)
    | _ => false)
def ir_mx (a b : Int32) : Int32 := if a < b then b else a
def ir_mn (a b : Int32) : Int32 := if b < a then b else a
def ir_ab (a : Int32) : Int32 := if 0 ≤ a then a else 0 - a
def ir_mxl (a b : Int64) : Int64 := if b < a then a else b
def ir_mnl (a b : Int64) : Int64 := if b < a then b else a
def ir_inv (F : ir_F) (G : ir_G) (hd : ir_H) (pc n : Nat) (x : List Nat) (L : ir_L) (st : List Value) (M : ir_M) : ir_R := match x with
  | 4 :: _ => ir_r1 st fun _ r => ir_rm r (F n L r M)
  | 5 :: _ => ir_i2 st fun a b r => ir_rm r (F n L (.int (ir_mx a b) :: r) M)
  | 6 :: _ => ir_i2 st fun a b r => ir_rm r (F n L (.int (ir_mn a b) :: r) M)
  | 7 :: _ => ir_i1 st fun a r => ir_rm r (F n L (.int (ir_ab a) :: r) M)
  | 8 :: _ => ir_l2 st fun a b r => ir_rm r (F n L (.long (ir_mxl a b) :: r) M)
  | 9 :: _ => ir_l2 st fun a b r => ir_rm r (F n L (.long (ir_mnl a b) :: r) M)
  | 3 :: _ => (match st with
    | .int k :: .int dp :: .ref d :: .int sp :: .ref s :: r => ir_rm r (ir_ck (ir_cpg M s sp d dp k) (F n L r (ir_cp M s sp.toNatClampNeg d dp.toNatClampNeg k.toNatClampNeg)))
    | _ => none)
  | kind :: y :: k :: t :: rc :: _ => ir_tk k st [] fun as r => ir_rm r (ir_ft0 y as (ir_ck (ir_rcv M kind rc as) (match t with
    | 0 => ir_bV (G y as M) (fun M' => F n L r M') (fun e M' => ir_hx F pc L e M' hd)
    | 1 => ir_bI (G y as M) (fun v M' => F n L (.int v :: r) M') (fun e M' => ir_hx F pc L e M' hd)
    | 2 => ir_bJ (G y as M) (fun v M' => F n L (.long v :: r) M') (fun e M' => ir_hx F pc L e M' hd)
    | _ => ir_bP (G y as M) (fun v M' => F n L (.ref v :: r) M') (fun e M' => ir_hx F pc L e M' hd))))
  | _ => none
def ir_gf (F : ir_F) (pc n : Nat) (x : List Nat) (L : ir_L) (st : List Value) (M : ir_M) : ir_R := match x with
  | c :: k :: t :: _ => ir_r1 st fun a r => (match t with
    | 1 => ir_ck (ir_gk M a c) (F n L (.long (ir_J M a k) :: r) M)
    | 2 => ir_ck (ir_gp M a c k) (F n L (.ref (ir_P M a k) :: r) M)
    | _ => ir_ck (ir_gk M a c) (F n L (.int (ir_I M a k) :: r) M))
  | _ => none
def ir_pf (F : ir_F) (pc n : Nat) (x : List Nat) (L : ir_L) (st : List Value) (M : ir_M) : ir_R := match x with
  | c :: k :: t :: _ => (match t with
    | 1 => (match st with
      | .long v :: .ref a :: r => ir_ck (ir_gq M a c) (F n L r (ir_sJ M a k v))
      | _ => none)
    | 2 => (match st with
      | .ref v :: .ref a :: r => ir_ck (ir_gv M a c v) (F n L r (ir_sP M a k v))
      | _ => none)
    | 3 => (match st with
      | .int v :: .ref a :: r => ir_ck (ir_gq M a c && ir_isB v) (F n L r (ir_sI M a k v))
      | _ => none)
    | _ => (match st with
      | .int v :: .ref a :: r => ir_ck (ir_gq M a c) (F n L r (ir_sI M a k v))
      | _ => none))
  | _ => none
def ir_nw (F : ir_F) (pc n : Nat) (x : List Nat) (L : ir_L) (st : List Value) (M : ir_M) : ir_R := match x with
  | 1 :: e :: _ => ir_rm st (some (.inr e, ir_th M))
  | 0 :: c :: k :: _ => ir_ck (ir_gn M c) (F n L (.ref (ir_nx M) :: st) (ir_al M k))
  | _ => none
def ir_na (F : ir_F) (pc n : Nat) (x : List Nat) (L : ir_L) (st : List Value) (M : ir_M) : ir_R := match x with
  | c :: _ => ir_i1 st fun v r => ir_ck (ir_gna M c v) (F n L (.ref (ir_nx M) :: r) (ir_al M v.toNatClampNeg))
  | _ => none
def ir_jm (x : List Nat) (k : Nat → ir_R) : ir_R := match x with
  | t :: _ => k t
  | [] => none
def ir_step (F : ir_F) (G : ir_G) (hd : ir_H) (pc : Nat) (e : ir_E) (L : ir_L) (st : List Value) (M : ir_M) : ir_R := match e with
  | (i, n, x, w, _) => match i with
    | .iconst _ => F n L (w :: st) M
    | .bipush _ => F n L (w :: st) M
    | .sipush _ => F n L (w :: st) M
    | .lconst _ => F n L (w :: st) M
    | .ldc _ => F n L (w :: st) M
    | .ldc_w _ => F n L (w :: st) M
    | .ldc2_w _ => F n L (w :: st) M
    | .getstatic _ => F n L (w :: st) M
    | .iload _ => ir_mi (ir_ld L x) fun v => F n L (.int v :: st) M
    | .iload_n _ => ir_mi (ir_ld L x) fun v => F n L (.int v :: st) M
    | .lload _ => ir_mj (ir_ld L x) fun v => F n L (.long v :: st) M
    | .lload_n _ => ir_mj (ir_ld L x) fun v => F n L (.long v :: st) M
    | .aload _ => ir_mr (ir_ld L x) fun v => F n L (.ref v :: st) M
    | .aload_n _ => ir_mr (ir_ld L x) fun v => F n L (.ref v :: st) M
    | .istore _ => ir_i1 st fun v r => ir_s1 L x (.int v) fun L' => F n L' r M
    | .istore_n _ => ir_i1 st fun v r => ir_s1 L x (.int v) fun L' => F n L' r M
    | .lstore _ => ir_l1 st fun v r => ir_s2 L x (.long v) fun L' => F n L' r M
    | .lstore_n _ => ir_l1 st fun v r => ir_s2 L x (.long v) fun L' => F n L' r M
    | .astore _ => ir_r1 st fun v r => ir_s1 L x (.ref v) fun L' => F n L' r M
    | .astore_n _ => ir_r1 st fun v r => ir_s1 L x (.ref v) fun L' => F n L' r M
    | .iinc _ _ => ir_mi (some w) fun c => ir_mi (ir_ld L x) fun v => ir_s1 L x (.int (v + c)) fun L' => F n L' st M
    | .iadd => ir_i2 st fun a b r => F n L (.int (a + b) :: r) M
    | .isub => ir_i2 st fun a b r => F n L (.int (a - b) :: r) M
    | .imul => ir_i2 st fun a b r => F n L (.int (a * b) :: r) M
    | .iand => ir_i2 st fun a b r => F n L (.int (a &&& b) :: r) M
    | .ior => ir_i2 st fun a b r => F n L (.int (a ||| b) :: r) M
    | .ixor => ir_i2 st fun a b r => F n L (.int (a ^^^ b) :: r) M
    | .idiv => ir_i2 st fun a b r => ir_dI b (F n L (.int (a / b) :: r) M)
    | .irem => ir_i2 st fun a b r => ir_dI b (F n L (.int (a - a / b * b) :: r) M)
    | .ineg => ir_i1 st fun a r => F n L (.int (-a) :: r) M
    | .ishl => ir_i2 st fun a b r => F n L (.int (a <<< (b &&& 31)) :: r) M
    | .ishr => ir_i2 st fun a b r => F n L (.int (a >>> (b &&& 31)) :: r) M
    | .iushr => ir_i2 st fun a b r => F n L (.int ((a.toUInt32 >>> (b.toUInt32 &&& Int32.toUInt32 31)).toInt32) :: r) M
    | .ladd => ir_l2 st fun a b r => F n L (.long (a + b) :: r) M
    | .lsub => ir_l2 st fun a b r => F n L (.long (a - b) :: r) M
    | .lmul => ir_l2 st fun a b r => F n L (.long (a * b) :: r) M
    | .land => ir_l2 st fun a b r => F n L (.long (a &&& b) :: r) M
    | .lor => ir_l2 st fun a b r => F n L (.long (a ||| b) :: r) M
    | .ldiv => ir_l2 st fun a b r => ir_dJ b (F n L (.long (a / b) :: r) M)
    | .lrem => ir_l2 st fun a b r => ir_dJ b (F n L (.long (a - a / b * b) :: r) M)
    | .lshl => ir_li st fun a b r => F n L (.long (a <<< (b.toInt64 &&& 63)) :: r) M
    | .lshr => ir_li st fun a b r => F n L (.long (a >>> (b.toInt64 &&& 63)) :: r) M
    | .lcmp => ir_l2 st fun a b r => F n L (.int (lg_cmp a b) :: r) M
    | .i2l => ir_i1 st fun a r => F n L (.long a.toInt64 :: r) M
    | .l2i => ir_l1 st fun a r => F n L (.int a.toInt32 :: r) M
    | .i2b => ir_i1 st fun a r => F n L (.int a.toInt8.toInt32 :: r) M
    | .i2s => ir_i1 st fun a r => F n L (.int a.toInt16.toInt32 :: r) M
    | .i2c => ir_i1 st fun a r => F n L (.int (a.toUInt32 % 65536).toInt32 :: r) M
    | .dup => (match st with
      | .ref a :: r => F n L (.ref a :: .ref a :: r) M
      | .int a :: r => F n L (.int a :: .int a :: r) M
      | _ => none)
    | .dup2 => (match st with
      | .long a :: r => F n L (.long a :: .long a :: r) M
      | .int i :: .ref a :: r => F n L (.int i :: .ref a :: .int i :: .ref a :: r) M
      | _ => none)
    | .pop => (match st with
      | .ref _ :: r => F n L r M
      | .int _ :: r => F n L r M
      | _ => none)
    | .pop2 => ir_l1 st fun _ r => F n L r M
    | .ifCond c _ => ir_jm x fun t => ir_i1 st fun a r => (match c with
      | .eq => if a = 0 then F t L r M else F n L r M
      | .ne => if a = 0 then F n L r M else F t L r M
      | .lt => if a < 0 then F t L r M else F n L r M
      | .ge => if a < 0 then F n L r M else F t L r M
      | .gt => if 0 < a then F t L r M else F n L r M
      | .le => if 0 < a then F n L r M else F t L r M)
    | .if_icmp c _ => ir_jm x fun t => ir_i2 st fun a b r => (match c with
      | .eq => if a = b then F t L r M else F n L r M
      | .ne => if a = b then F n L r M else F t L r M
      | .lt => if a < b then F t L r M else F n L r M
      | .ge => if a < b then F n L r M else F t L r M
      | .gt => if b < a then F t L r M else F n L r M
      | .le => if b < a then F n L r M else F t L r M)
    | .goto _ => ir_jm x fun t => F t L st M
    | .tableswitch _ _ _ _ => ir_i1 st fun a r => ir_jm x fun d => ir_swt (fun t => F t L r M) a d x.tail
    | .lookupswitch _ _ => ir_i1 st fun a r => ir_jm x fun d => ir_swt (fun t => F t L r M) a d x.tail
    | .getfield _ => ir_gf F pc n x L st M
    | .putfield _ => ir_pf F pc n x L st M
    | .iaload => ir_ri st fun a i r => ir_ck (ir_ga M a 100 i) (F n L (.int (ir_I M a i.toNatClampNeg) :: r) M)
    | .laload => ir_ri st fun a i r => ir_ck (ir_ga M a 101 i) (F n L (.long (ir_J M a i.toNatClampNeg) :: r) M)
    | .baload => ir_ri st fun a i r => ir_ck (ir_ga M a 102 i || ir_ga M a 103 i) (F n L (.int (ir_I M a i.toNatClampNeg) :: r) M)
    | .caload => ir_ri st fun a i r => ir_ck (ir_ga M a 104 i) (F n L (.int (ir_I M a i.toNatClampNeg) :: r) M)
    | .aaload => ir_ri st fun a i r => ir_ck ((ir_ga M a 105 i || ir_ga M a 106 i || ir_ga M a 107 i) && Nat.blt 0 (ir_P M a i.toNatClampNeg)) (F n L (.ref (ir_P M a i.toNatClampNeg) :: r) M)
    | .iastore => ir_rii st fun a i v r => ir_ck (ir_gw M a 100 i) (F n L r (ir_sI M a i.toNatClampNeg v))
    | .lastore => ir_ril st fun a i v r => ir_ck (ir_gw M a 101 i) (F n L r (ir_sJ M a i.toNatClampNeg v))
    | .bastore => ir_rii st fun a i v r => ir_ck (ir_gw M a 102 i || ir_gw M a 103 i) (F n L r (ir_sI M a i.toNatClampNeg (ir_bst (ir_kd a) v)))
    | .castore => ir_rii st fun a i v r => ir_ck (ir_gw M a 104 i) (F n L r (ir_sI M a i.toNatClampNeg (vp_nar .char v)))
    | .aastore => ir_rir st fun a i v r => ir_ck (((ir_gw M a 105 i && ir_gk M v 8) || (ir_gw M a 106 i && ir_gk M v 5) || (ir_gw M a 107 i && ir_gk M v 10)) && Nat.blt 0 v && Nat.blt v (ir_nx M)) (F n L r (ir_sP M a i.toNatClampNeg v))
    | .arraylength => ir_r1 st fun a r => ir_ck (ir_gl M a) (F n L (.int (Int32.ofNat (ir_ln M a)) :: r) M)
    | .new _ => ir_nw F pc n x L st M
    | .newarray _ => ir_na F pc n x L st M
    | .anewarray _ => ir_na F pc n x L st M
    | .invokevirtual _ => ir_inv F G hd pc n x L st M
    | .invokespecial _ => ir_inv F G hd pc n x L st M
    | .invokestatic _ => ir_inv F G hd pc n x L st M
    | .ireturn => (match st with
      | [.int v] => ir_jm x fun c => ir_ck (ir_nar c v) (some (.inl (some (.int v)), M))
      | _ => none)
    | .lreturn => (match st with
      | [.long v] => some (.inl (some (.long v)), M)
      | _ => none)
    | .areturn => (match st with
      | [.ref v] => some (.inl (some (.ref v)), M)
      | _ => none)
    | .return_ => (match st with
      | [] => some (.inl none, M)
      | _ => none)
    | _ => none
def ir_pad : Nat → ir_L → ir_L
  | 0, l => l
  | _ + 1, [] => []
  | n + 1, a :: l => a :: ir_pad n l
def ir_fill : Nat → ir_L → ir_L
  | 0, l => l
  | n + 1, [] => none :: ir_fill n []
  | n + 1, a :: l => a :: ir_fill n l
def ir_hd (y : Nat) : ir_H := match ir_lk ir_hds y with
  | some h => h
  | none => []
def ir_en (y : Nat) (as : List Value) : ir_L := ir_fill (ir_ml y) (ir_arg as)
def ir_fetch (y pc : Nat) : Option ir_E := match ir_nth ir_prog (y / 16) with
  | none => none
  | some c => match ir_nth c (y % 16) with
    | none => none
    | some t => match ir_nth t (pc / 16) with
      | none => none
      | some l => ir_lk l pc
/-- what is known of locals that are dead at a place is forgotten there (true: dead) -/
def ir_mk : List Bool → ir_L → (ir_L → ir_R) → ir_R
  | [], l, k => k l
  | _ :: _, [], k => k []
  | true :: b, _ :: l, k => ir_mk b l (fun l' => k (none :: l'))
  | false :: b, a :: l, k => ir_mk b l (fun l' => k (a :: l'))
def ir_ev : Nat → Nat → Nat → ir_F
  | 0, _, _, _, _, _, _ => none
  | n + 1, d, y, pc, L, st, M => match ir_fetch y pc with
    | none => none
    | some e => ir_mk e.2.2.2.2 L fun L' => ir_step (ir_ev n d y) (fun y' as M' => match d with
      | 0 => none
      | d' + 1 => ir_ev n d' y' 0 (ir_en y' as) [] M') (ir_hd y) pc e L' st M
