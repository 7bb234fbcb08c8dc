/-! THE CHECK: a row of the program against the bytecode and the links. -/
def ir_o (y : Nat) : Nat := (ir_mo y).1
def ir_d (y pc : Nat) (i : Instr) (k n : Nat) : Bool := decide (decode (ir_co y) pc = .ok (i, k)) && Nat.beq n (pc + k)
def ir_i2L (a b : Nat) (l : List (Nat × Nat)) : Bool := l.any fun e => Nat.beq e.1 a && Nat.beq e.2 b
def ir_i3L (a b c : Nat) (l : List (Nat × Nat × Nat)) : Bool := l.any fun e => Nat.beq e.1 a && (Nat.beq e.2.1 b && Nat.beq e.2.2 c)
def ir_i4L (a b c d : Nat) (l : List (Nat × Nat × Nat × Nat)) : Bool := l.any fun e => Nat.beq e.1 a && (Nat.beq e.2.1 b && (Nat.beq e.2.2.1 c && Nat.beq e.2.2.2 d))
def ir_i5L (a b c d f : Nat) (l : List (Nat × Nat × Nat × Nat × Nat)) : Bool := l.any fun e => Nat.beq e.2.1 b && (Nat.beq e.1 a && (Nat.beq e.2.2.1 c && (Nat.beq e.2.2.2.1 d && Nat.beq e.2.2.2.2 f)))
def ir_i6L (a b c d f g : Nat) (l : List (Nat × Nat × Nat × Nat × Nat × Nat)) : Bool := l.any fun e => Nat.beq e.2.1 b && (Nat.beq e.1 a && (Nat.beq e.2.2.1 c && (Nat.beq e.2.2.2.1 d && (Nat.beq e.2.2.2.2.1 f && Nat.beq e.2.2.2.2.2 g))))
def ir_elF (o i c k t : Nat) : Bool := match ir_nth ir_fO o with
  | some l => ir_i5L o i c k t l
  | none => false
def ir_elM (o i kd y n rc : Nat) : Bool := match ir_nth ir_mO o with
  | some l => ir_i6L o i kd y n rc l
  | none => false
def ir_hd1 (x : List Nat) (j : Nat) : Bool := match x with
  | a :: _ => Nat.beq a j
  | [] => true
def ir_tg (pc : Nat) (x : List Nat) (off : Int) : Bool := match x with
  | t :: _ => decide ((pc : Int) + off = (t : Int))
  | [] => true
def ir_lkS (pc : Nat) : List (Int × Int) → List Nat → Bool
  | [], [] => true
  | (k, o) :: ps, c :: t :: l => decide ((Int32.ofNat c).toInt = k) && (decide ((pc : Int) + o = (t : Int)) && ir_lkS pc ps l)
  | _, _ => false
def ir_tbS (pc : Nat) : Int → List Int → List Nat → Bool
  | _, [], [] => true
  | k, o :: os, c :: t :: l => decide ((Int32.ofNat c).toInt = k) && (decide ((pc : Int) + o = (t : Int)) && ir_tbS pc (k + 1) os l)
  | _, _, _ => false
def ir_okf (y j : Nat) : List Nat → Bool
  | c :: k :: t :: _ => (match Nat.beq c 50 with
    | true => ir_i3L (ir_o y) j k ir_hL && ((Nat.beq k 0 && Nat.beq t 2) || (Nat.beq k 1 && Nat.beq t 0))
    | false => ir_elF (ir_o y) j c k t)
  | _ => true
def ir_fin (c k : Nat) : Bool := match vwCl[c]? with
  | some q => (q.2.1 k).2.2.2
  | none => false
def ir_okp (y j : Nat) : List Nat → Bool
  | c :: k :: t :: _ => ir_elF (ir_o y) j c k t && (!(ir_fin c k) || (decide ((ir_nm y).name = "<init>") && Nat.beq c (ir_o y)))
  | _ => true
def ir_rtc (y : Nat) : Nat := match (ir_mo y).2.2.2.2 with
  | none => 0
  | some .long => 2
  | some (.object _) => 3
  | some (.array _) => 3
  | some _ => 1
def ir_oki (y j op : Nat) : List Nat → Bool
  | 3 :: _ => Nat.beq op 2 && ir_i2L (ir_o y) j ir_yL
  | 4 :: _ => Nat.beq op 1 && ir_i2L (ir_o y) j ir_zL
  | 5 :: _ => Nat.beq op 2 && ir_i3L (ir_o y) j 5 ir_uL
  | 6 :: _ => Nat.beq op 2 && ir_i3L (ir_o y) j 6 ir_uL
  | 7 :: _ => Nat.beq op 2 && ir_i3L (ir_o y) j 7 ir_uL
  | 8 :: _ => Nat.beq op 2 && ir_i3L (ir_o y) j 8 ir_uL
  | 9 :: _ => Nat.beq op 2 && ir_i3L (ir_o y) j 9 ir_uL
  | kind :: y' :: k :: t :: rc :: _ => Nat.beq kind op && (ir_elM (ir_o y) j kind y' k rc && (Nat.blt y' 383 && (!(Nat.beq y' ir_lawN) && (Nat.beq t (ir_rtc y') && ((Nat.beq kind 2 || (ir_hh y').isEmpty) && (!(Nat.beq kind 1) || (ir_mo y').2.2.2.2.isNone))))))
  | _ => true
def ir_sok (o k : Nat) : Bool := (List.range 55).any fun i => Nat.beq (ir_str i).1 o && Nat.beq (ir_str i).2.1 k
def ir_xck (y j e p : Nat) : Bool := match decode (ir_co y) p with
  | .ok (.invokespecial ic, 3) => ir_i4L (ir_o y) j e ic ir_xL && decide (decode (ir_co y) (p + 3) = .ok (.athrow, 1))
  | _ => false
def ir_okx (y pc j e : Nat) : Bool := (ir_hh y).isEmpty && (decide (decode (ir_co y) (pc + 3) = .ok (.dup, 1)) && (match decode (ir_co y) (pc + 4) with
  | .ok (.ldc k, 2) => ir_sok (ir_o y) k && ir_xck y j e (pc + 6)
  | .ok (.ldc_w k, 3) => ir_sok (ir_o y) k && ir_xck y j e (pc + 7)
  | _ => false))
def ir_okn (y pc j : Nat) : List Nat → Bool
  | 1 :: e :: _ => ir_okx y pc j e
  | 0 :: c :: k :: _ => ir_i4L (ir_o y) j c k ir_nL
  | _ => true
def ir_okr : Nat → Option FieldType → Bool
  | 0, some .int => true
  | 1, some .boolean => true
  | 2, some .byte => true
  | 3, some .char => true
  | _, _ => false
def ir_atk : ArrayType → Nat
  | .int => 100
  | .long => 101
  | .byte => 102
  | .boolean => 103
  | .char => 104
  | _ => 99
def ir_okl (y j : Nat) (v : Value) : Bool := match v with
  | .int c => ir_kL.any fun e => Nat.beq e.1 (ir_o y) && (Nat.beq e.2.1 j && decide (e.2.2 = c))
  | .ref a => Nat.ble 1000000 a && (Nat.blt a 1000055 && (Nat.beq (ir_str (a - 1000000)).1 (ir_o y) && Nat.beq (ir_str (a - 1000000)).2.1 j))
  | _ => false
def ir_okj (y j : Nat) (v : Value) : Bool := match v with
  | .long c => ir_jL.any fun e => Nat.beq e.1 (ir_o y) && (Nat.beq e.2.1 j && decide (e.2.2 = c))
  | _ => false
def ir_okg (y j : Nat) (v : Value) : Bool := (ir_i3L (ir_o y) j 0 ir_gL && decide (v = .int 1)) || ((ir_i3L (ir_o y) j 1 ir_gL && decide (v = .ref 3000000)) || (ir_i3L (ir_o y) j 2 ir_gL && decide (v = .null)))
def ir_okE (y pc : Nat) (e : ir_E) : Bool := match e with
  | (i, n, x, v, _) => match i with
    | .iconst k => ir_d y pc i 1 n && decide (v = .int (Int32.ofInt k))
    | .bipush k => ir_d y pc i 2 n && decide (v = .int (Int8.ofInt k).toInt32)
    | .sipush k => ir_d y pc i 3 n && decide (v = .int (Int16.ofInt k).toInt32)
    | .lconst k => ir_d y pc i 1 n && decide (v = .long (Int64.ofNat k))
    | .ldc j => ir_d y pc i 2 n && ir_okl y j v
    | .ldc_w j => ir_d y pc i 3 n && ir_okl y j v
    | .ldc2_w j => ir_d y pc i 3 n && ir_okj y j v
    | .getstatic j => ir_d y pc i 3 n && ir_okg y j v
    | .iload j => ir_d y pc i 2 n && ir_hd1 x j
    | .iload_n j => ir_d y pc i 1 n && ir_hd1 x j
    | .lload j => ir_d y pc i 2 n && ir_hd1 x j
    | .lload_n j => ir_d y pc i 1 n && ir_hd1 x j
    | .aload j => ir_d y pc i 2 n && ir_hd1 x j
    | .aload_n j => ir_d y pc i 1 n && ir_hd1 x j
    | .istore j => ir_d y pc i 2 n && ir_hd1 x j
    | .istore_n j => ir_d y pc i 1 n && ir_hd1 x j
    | .lstore j => ir_d y pc i 2 n && ir_hd1 x j
    | .lstore_n j => ir_d y pc i 1 n && ir_hd1 x j
    | .astore j => ir_d y pc i 2 n && ir_hd1 x j
    | .astore_n j => ir_d y pc i 1 n && ir_hd1 x j
    | .iinc j k => ir_d y pc i 3 n && (ir_hd1 x j && decide (v = .int (Int32.ofInt k)))
    | .ifCond _ off => ir_d y pc i 3 n && ir_tg pc x off
    | .if_icmp _ off => ir_d y pc i 3 n && ir_tg pc x off
    | .goto off => ir_d y pc i 3 n && ir_tg pc x off
    | .tableswitch d lo hi offs => ir_d y pc i (n - pc) n && (ir_tg pc x d && (ir_tbS pc lo offs.toList x.tail && decide (hi = lo + offs.size - 1)))
    | .lookupswitch d ps => ir_d y pc i (n - pc) n && (ir_tg pc x d && (ir_lkS pc ps.toList x.tail && (ps.toList.zip (ps.toList.drop 1)).all (fun (a, next) => a.1 < next.1)))
    | .getfield j => ir_d y pc i 3 n && ir_okf y j x
    | .putfield j => ir_d y pc i 3 n && ir_okp y j x
    | .new j => ir_d y pc i 3 n && ir_okn y pc j x
    | .newarray a => ir_d y pc i 2 n && (ir_hd1 x (ir_atk a) && Nat.ble 100 (ir_atk a))
    | .anewarray j => ir_d y pc i 3 n && (match x with
      | c :: _ => ir_i3L (ir_o y) j c ir_aL
      | [] => true)
    | .invokevirtual j => ir_d y pc i 3 n && ir_oki y j 0 x
    | .invokespecial j => ir_d y pc i 3 n && ir_oki y j 1 x
    | .invokestatic j => ir_d y pc i 3 n && ir_oki y j 2 x
    | .ireturn => ir_d y pc i 1 n && (match x with
      | c :: _ => ir_okr c (ir_mo y).2.2.2.2
      | [] => true)
    | .lreturn => ir_d y pc i 1 n && decide ((ir_mo y).2.2.2.2 = some .long)
    | .areturn => ir_d y pc i 1 n && Nat.beq (ir_rtc y) 3
    | .return_ => ir_d y pc i 1 n && (ir_mo y).2.2.2.2.isNone
    | .athrow => true
    | _ => ir_d y pc i 1 n
def ir_hdp (y : Nat) : ir_H → List (Nat × Nat × Nat × Nat) → Bool
  | [], [] => true
  | (f, t, c, s, p) :: a, (f', t', h, ct) :: b => Nat.beq f f' && (Nat.beq t t' && (ir_i3L (ir_o y) ct c ir_hcL && ((match decode (ir_co y) h with
    | .ok (.astore j, 2) => Nat.beq j s && Nat.beq p (h + 2)
    | .ok (.astore_n j, 1) => Nat.beq j.val s && Nat.beq p (h + 1)
    | _ => false) && ir_hdp y a b)))
  | _, _ => false
def ir_ckT (y : Nat) (t : List (List (Nat × ir_E))) : Bool := t.all fun l => l.all fun q => ir_okE y q.1 q.2
def ir_kC : Nat → List (List (List (Nat × ir_E))) → Prop
  | _, [] => True
  | y, t :: r => ir_ckT y t = true ∧ ir_kC (y + 1) r
def ir_kA : Nat → List (List (List (List (Nat × ir_E)))) → Prop
  | _, [] => True
  | c, l :: r => ir_kC (16 * c) l ∧ ir_kA (c + 1) r
theorem ir_kC_at : ∀ (l : List (List (List (Nat × ir_E)))) (y i : Nat) (t : List (List (Nat × ir_E))), ir_kC y l → ir_nth l i = some t → ir_ckT (y + i) t = true
  | [], _, _, _, _, h => nomatch h
  | a :: l, y, 0, t, hk, h => by cases h; exact hk.1
  | a :: l, y, i + 1, t, hk, h => by
    have := ir_kC_at l (y + 1) i t hk.2 h
    rwa [show y + 1 + i = y + (i + 1) by omega] at this
theorem ir_kA_at : ∀ (l : List (List (List (List (Nat × ir_E))))) (c i : Nat) (t : List (List (List (Nat × ir_E)))), ir_kA c l → ir_nth l i = some t → ir_kC (16 * (c + i)) t
  | [], _, _, _, _, h => nomatch h
  | a :: l, c, 0, t, hk, h => by cases h; exact hk.1
  | a :: l, c, i + 1, t, hk, h => by
    have := ir_kA_at l (c + 1) i t hk.2 h
    rwa [show c + 1 + i = c + (i + 1) by omega] at this
theorem ir_nth_mem {α : Type} : ∀ (l : List α) (i : Nat) (a : α), ir_nth l i = some a → a ∈ l
  | [], _, _, h => nomatch h
  | b :: l, 0, a, h => by cases h; exact List.mem_cons_self
  | b :: l, i + 1, a, h => List.mem_cons_of_mem _ (ir_nth_mem l i a h)
theorem ir_lk_mem {α : Type} : ∀ (l : List (Nat × α)) (n : Nat) (a : α), ir_lk l n = some a → (n, a) ∈ l
  | [], _, _, h => nomatch h
  | (k, v) :: l, n, a, h => by
    unfold ir_lk at h
    split at h
    · rename_i hb
      have := Nat.eq_of_beq_eq_true hb
      subst this
      cases h
      exact List.mem_cons_self
    · exact List.mem_cons_of_mem _ (ir_lk_mem l n a h)
theorem ir_fetch_of (hA : ir_kA 0 ir_prog) {y pc : Nat} {e : ir_E} (h : ir_fetch y pc = some e) : ir_okE y pc e = true := by
  unfold ir_fetch at h
  split at h
  · exact nomatch h
  · rename_i c hc
    split at h
    · exact nomatch h
    · rename_i t ht
      split at h
      · exact nomatch h
      · rename_i l hl
        have h1 := ir_kC_at c _ _ t (ir_kA_at _ 0 _ c hA hc) ht
        rw [show 16 * (0 + y / 16) + y % 16 = y by omega] at h1
        exact List.all_eq_true.mp (List.all_eq_true.mp h1 l (ir_nth_mem _ _ _ hl)) (pc, e) (ir_lk_mem _ _ _ h)
