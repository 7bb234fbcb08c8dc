def ir_kP (e : Nat × Nat × Int32) : Prop := Cond.constant (ir_on e.1) e.2.1 e.2.2 ∈ ir_Tb
theorem ir_k_0 : ir_kP (1, 34, 1000000) := (ir_Tm (ir_k3 128 rfl) rfl)
theorem ir_k_1 : ir_kP (1, 37, -1000000) := (ir_Tm (ir_k3 130 rfl) rfl)
theorem ir_k_2 : ir_kP (7, 46, -2147483648) := (ir_Tm (ir_k7 28 rfl) rfl)
theorem ir_k_3 : ir_kP (11, 525, 1103515245) := (ir_Tm (ir_k6 93 rfl) rfl)
theorem ir_k_4 : ir_kP (12, 438, 1103515245) := (ir_Tm (ir_k10 79 rfl) rfl)
theorem ir_k_5 : ir_kP (17, 265, 1431655765) := (ir_Tm (ir_k6 171 rfl) rfl)
theorem ir_k_6 : ir_kP (17, 266, 858993459) := (ir_Tm (ir_k6 172 rfl) rfl)
theorem ir_k_7 : ir_kP (17, 267, 252645135) := (ir_Tm (ir_k6 173 rfl) rfl)
def ir_kc0 : List (Nat × Nat × Int32) := [(1, 34, 1000000), (1, 37, -1000000), (7, 46, -2147483648), (11, 525, 1103515245), (12, 438, 1103515245), (17, 265, 1431655765), (17, 266, 858993459), (17, 267, 252645135)]
theorem ir_kd0 : ∀ e ∈ ir_kc0, ir_kP e := List.forall_mem_cons.mpr ⟨ir_k_0, List.forall_mem_cons.mpr ⟨ir_k_1, List.forall_mem_cons.mpr ⟨ir_k_2, List.forall_mem_cons.mpr ⟨ir_k_3, List.forall_mem_cons.mpr ⟨ir_k_4, List.forall_mem_cons.mpr ⟨ir_k_5, List.forall_mem_cons.mpr ⟨ir_k_6, List.forall_mem_cons.mpr ⟨ir_k_7, fun _ h => absurd h List.not_mem_nil⟩⟩⟩⟩⟩⟩⟩⟩
def ir_kL : List (Nat × Nat × Int32) := ir_kc0
theorem ir_k_ok : ∀ e ∈ ir_kL, ir_kP e := ir_kd0
def ir_jP (e : Nat × Nat × Int64) : Prop := Cond.constantLong (ir_on e.1) e.2.1 e.2.2 ∈ ir_Tb
theorem ir_j_0 : ir_jP (1, 32, 1000000) := (ir_Tm (ir_k3 127 rfl) rfl)
theorem ir_j_1 : ir_jP (1, 35, -1000000) := (ir_Tm (ir_k3 129 rfl) rfl)
theorem ir_j_2 : ir_jP (11, 452, -2) := (ir_Tm (ir_k7 81 rfl) rfl)
theorem ir_j_3 : ir_jP (11, 517, -1) := (ir_Tm (ir_k6 61 rfl) rfl)
theorem ir_j_4 : ir_jP (11, 519, 200) := (ir_Tm (ir_k6 62 rfl) rfl)
theorem ir_j_5 : ir_jP (11, 521, 100) := (ir_Tm (ir_k6 63 rfl) rfl)
theorem ir_j_6 : ir_jP (11, 523, 10) := (ir_Tm (ir_k6 64 rfl) rfl)
theorem ir_j_7 : ir_jP (12, 279, -1000000) := (ir_Tm (ir_k9 116 rfl) rfl)
theorem ir_j_8 : ir_jP (12, 281, 1000000) := (ir_Tm (ir_k9 117 rfl) rfl)
theorem ir_j_9 : ir_jP (12, 346, 6) := (ir_Tm (ir_k9 77 rfl) rfl)
theorem ir_j_10 : ir_jP (12, 373, 60) := (ir_Tm (ir_k9 203 rfl) rfl)
theorem ir_j_11 : ir_jP (12, 414, 12) := (ir_Tm (ir_k10 41 rfl) rfl)
theorem ir_j_12 : ir_jP (12, 416, -1) := (ir_Tm (ir_k10 54 rfl) rfl)
theorem ir_j_13 : ir_jP (12, 418, 199) := (ir_Tm (ir_k10 55 rfl) rfl)
theorem ir_j_14 : ir_jP (12, 420, 100) := (ir_Tm (ir_k10 56 rfl) rfl)
theorem ir_j_15 : ir_jP (12, 422, 10) := (ir_Tm (ir_k10 57 rfl) rfl)
def ir_jc0 : List (Nat × Nat × Int64) := [(1, 32, 1000000), (1, 35, -1000000), (11, 452, -2), (11, 517, -1), (11, 519, 200), (11, 521, 100), (11, 523, 10), (12, 279, -1000000), (12, 281, 1000000), (12, 346, 6), (12, 373, 60), (12, 414, 12), (12, 416, -1), (12, 418, 199), (12, 420, 100), (12, 422, 10)]
theorem ir_jd0 : ∀ e ∈ ir_jc0, ir_jP e := List.forall_mem_cons.mpr ⟨ir_j_0, List.forall_mem_cons.mpr ⟨ir_j_1, List.forall_mem_cons.mpr ⟨ir_j_2, List.forall_mem_cons.mpr ⟨ir_j_3, List.forall_mem_cons.mpr ⟨ir_j_4, List.forall_mem_cons.mpr ⟨ir_j_5, List.forall_mem_cons.mpr ⟨ir_j_6, List.forall_mem_cons.mpr ⟨ir_j_7, List.forall_mem_cons.mpr ⟨ir_j_8, List.forall_mem_cons.mpr ⟨ir_j_9, List.forall_mem_cons.mpr ⟨ir_j_10, List.forall_mem_cons.mpr ⟨ir_j_11, List.forall_mem_cons.mpr ⟨ir_j_12, List.forall_mem_cons.mpr ⟨ir_j_13, List.forall_mem_cons.mpr ⟨ir_j_14, List.forall_mem_cons.mpr ⟨ir_j_15, fun _ h => absurd h List.not_mem_nil⟩⟩⟩⟩⟩⟩⟩⟩⟩⟩⟩⟩⟩⟩⟩⟩
theorem ir_j_16 : ir_jP (12, 424, 3) := (ir_Tm (ir_k10 28 rfl) rfl)
theorem ir_j_17 : ir_jP (12, 442, 30) := (ir_Tm (ir_k10 74 rfl) rfl)
theorem ir_j_18 : ir_jP (12, 473, 17) := (ir_Tm (ir_k10 84 rfl) rfl)
theorem ir_j_19 : ir_jP (12, 485, 2) := (ir_Tm (ir_k10 128 rfl) rfl)
theorem ir_j_20 : ir_jP (12, 541, -2) := (ir_Tm (ir_k10 227 rfl) rfl)
theorem ir_j_21 : ir_jP (13, 291, 4294967295) := (ir_Tm (ir_k11 32 rfl) rfl)
def ir_jc1 : List (Nat × Nat × Int64) := [(12, 424, 3), (12, 442, 30), (12, 473, 17), (12, 485, 2), (12, 541, -2), (13, 291, 4294967295)]
theorem ir_jd1 : ∀ e ∈ ir_jc1, ir_jP e := List.forall_mem_cons.mpr ⟨ir_j_16, List.forall_mem_cons.mpr ⟨ir_j_17, List.forall_mem_cons.mpr ⟨ir_j_18, List.forall_mem_cons.mpr ⟨ir_j_19, List.forall_mem_cons.mpr ⟨ir_j_20, List.forall_mem_cons.mpr ⟨ir_j_21, fun _ h => absurd h List.not_mem_nil⟩⟩⟩⟩⟩⟩
def ir_jL : List (Nat × Nat × Int64) := ir_jc0 ++ (ir_jc1)
theorem ir_j_ok : ∀ e ∈ ir_jL, ir_jP e := List.forall_mem_append.mpr ⟨ir_jd0, ir_jd1⟩
def ir_gnm (k : Nat) : String × String × String := match k with
  | 0 => ("java/lang/String", "COMPACT_STRINGS", "Z")
  | 1 => ("WellQueue$Shares", "ROWS", "[I")
  | _ => ("jdk/internal/util/Preconditions", "SIOOBE_FORMATTER", "Ljava/util/function/BiFunction;")
def ir_gP (e : Nat × Nat × Nat) : Prop := Cond.fieldLink (ir_on e.1) e.2.1 (ir_gnm e.2.2).1 (ir_gnm e.2.2).2.1 (ir_gnm e.2.2).2.2 ∈ ir_Tb
theorem ir_g_0 : ir_gP (7, 82, 1) := (ir_Tm (ir_k7 53 rfl) rfl)
theorem ir_g_1 : ir_gP (14, 38, 0) := (ir_Tm (ir_k2 4 rfl) rfl)
theorem ir_g_2 : ir_gP (14, 1053, 2) := (ir_Tm (ir_k2 27 rfl) rfl)
def ir_gc0 : List (Nat × Nat × Nat) := [(7, 82, 1), (14, 38, 0), (14, 1053, 2)]
theorem ir_gd0 : ∀ e ∈ ir_gc0, ir_gP e := List.forall_mem_cons.mpr ⟨ir_g_0, List.forall_mem_cons.mpr ⟨ir_g_1, List.forall_mem_cons.mpr ⟨ir_g_2, fun _ h => absurd h List.not_mem_nil⟩⟩⟩
def ir_gL : List (Nat × Nat × Nat) := ir_gc0
theorem ir_g_ok : ∀ e ∈ ir_gL, ir_gP e := ir_gd0
def ir_hP (e : Nat × Nat × Nat) : Prop := (e.2.2 = 0 ∧ Cond.fieldLink (ir_on e.1) e.2.1 "java/lang/String" "value" "[B" ∈ ir_Tb) ∨ (e.2.2 = 1 ∧ Cond.fieldLink (ir_on e.1) e.2.1 "java/lang/String" "coder" "B" ∈ ir_Tb)
theorem ir_h_0 : ir_hP (14, 9, 0) := Or.inl ⟨rfl, (ir_Tm (ir_k11 54 rfl) rfl)⟩
theorem ir_h_1 : ir_hP (14, 15, 1) := Or.inr ⟨rfl, (ir_Tm (ir_k11 53 rfl) rfl)⟩
def ir_hc0 : List (Nat × Nat × Nat) := [(14, 9, 0), (14, 15, 1)]
theorem ir_hd0 : ∀ e ∈ ir_hc0, ir_hP e := List.forall_mem_cons.mpr ⟨ir_h_0, List.forall_mem_cons.mpr ⟨ir_h_1, fun _ h => absurd h List.not_mem_nil⟩⟩
def ir_hL : List (Nat × Nat × Nat) := ir_hc0
theorem ir_h_ok : ∀ e ∈ ir_hL, ir_hP e := ir_hd0
def ir_nP (e : Nat × Nat × Nat × Nat) : Prop := ∃ q : vw_C, vwCl[e.2.2.1]? = some q ∧ q.2.2 = e.2.2.2 ∧ Cond.classLink (ir_on e.1) e.2.1 q.1 ∈ ir_Tb ∧ Cond.instantiable q.1 q.2.2 ∈ ir_Tb ∧ Cond.initialized q.1 ∈ ir_Tb
theorem ir_n_0 : ir_nP (4, 13, 9, 12) := ⟨(RX9, TX9, 12), rfl, rfl, (ir_Tm (ir_k1 231 rfl) rfl), (ir_Tm (ir_k1 45 rfl) rfl), (ir_Tm (ir_k1 3 rfl) rfl)⟩
theorem ir_n_1 : ir_nP (4, 20, 8, 9) := ⟨(RX8, TX8, 9), rfl, rfl, (ir_Tm (ir_k1 233 rfl) rfl), (ir_Tm (ir_k1 139 rfl) rfl), (ir_Tm (ir_k1 5 rfl) rfl)⟩
theorem ir_n_2 : ir_nP (5, 9, 9, 12) := ⟨(RX9, TX9, 12), rfl, rfl, (ir_Tm (ir_k1 44 rfl) rfl), (ir_Tm (ir_k1 45 rfl) rfl), (ir_Tm (ir_k1 3 rfl) rfl)⟩
theorem ir_n_3 : ir_nP (5, 18, 8, 9) := ⟨(RX8, TX8, 9), rfl, rfl, (ir_Tm (ir_k1 138 rfl) rfl), (ir_Tm (ir_k1 139 rfl) rfl), (ir_Tm (ir_k1 5 rfl) rfl)⟩
theorem ir_n_4 : ir_nP (9, 22, 1, 3) := ⟨(RX1, TX1, 3), rfl, rfl, (ir_Tm (ir_k1 50 rfl) rfl), (ir_Tm (ir_k1 51 rfl) rfl), (ir_Tm (ir_k1 4 rfl) rfl)⟩
theorem ir_n_5 : ir_nP (11, 17, 5, 5) := ⟨(RX5, TX5, 5), rfl, rfl, (ir_Tm (ir_k1 38 rfl) rfl), (ir_Tm (ir_k1 39 rfl) rfl), (ir_Tm (ir_k1 2 rfl) rfl)⟩
theorem ir_n_6 : ir_nP (11, 34, 8, 9) := ⟨(RX8, TX8, 9), rfl, rfl, (ir_Tm (ir_k1 220 rfl) rfl), (ir_Tm (ir_k1 139 rfl) rfl), (ir_Tm (ir_k1 5 rfl) rfl)⟩
theorem ir_n_7 : ir_nP (11, 48, 10, 4) := ⟨(RX10, TX10, 4), rfl, rfl, (ir_Tm (ir_k1 223 rfl) rfl), (ir_Tm (ir_k3 7 rfl) rfl), (ir_Tm (ir_k1 16 rfl) rfl)⟩
theorem ir_n_8 : ir_nP (11, 54, 4, 11) := ⟨(RX4, TX4, 11), rfl, rfl, (ir_Tm (ir_k1 225 rfl) rfl), (ir_Tm (ir_k1 226 rfl) rfl), (ir_Tm (ir_k1 6 rfl) rfl)⟩
theorem ir_n_9 : ir_nP (11, 61, 0, 4) := ⟨(RX0, TX0, 4), rfl, rfl, (ir_Tm (ir_k2 81 rfl) rfl), (ir_Tm (ir_k2 82 rfl) rfl), (ir_Tm (ir_k1 11 rfl) rfl)⟩
theorem ir_n_10 : ir_nP (11, 68, 2, 11) := ⟨(RX2, TX2, 11), rfl, rfl, (ir_Tm (ir_k2 106 rfl) rfl), (ir_Tm (ir_k2 107 rfl) rfl), (ir_Tm (ir_k1 12 rfl) rfl)⟩
theorem ir_n_11 : ir_nP (11, 75, 3, 10) := ⟨(RX3, TX3, 10), rfl, rfl, (ir_Tm (ir_k2 151 rfl) rfl), (ir_Tm (ir_k2 152 rfl) rfl), (ir_Tm (ir_k1 13 rfl) rfl)⟩
theorem ir_n_12 : ir_nP (11, 82, 7, 5) := ⟨(RX7, TX7, 5), rfl, rfl, (ir_Tm (ir_k2 190 rfl) rfl), (ir_Tm (ir_k2 191 rfl) rfl), (ir_Tm (ir_k1 14 rfl) rfl)⟩
theorem ir_n_13 : ir_nP (11, 89, 6, 9) := ⟨(RX6, TX6, 9), rfl, rfl, (ir_Tm (ir_k2 212 rfl) rfl), (ir_Tm (ir_k2 213 rfl) rfl), (ir_Tm (ir_k1 15 rfl) rfl)⟩
theorem ir_n_14 : ir_nP (13, 8, 11, 20) := ⟨(RX11, TX11, 20), rfl, rfl, (ir_Tm (ir_k1 30 rfl) rfl), (ir_Tm (ir_k1 31 rfl) rfl), (ir_Tm (ir_k1 1 rfl) rfl)⟩
theorem ir_n_15 : ir_nP (13, 142, 12, 50) := ⟨(RX12, TX12, 50), rfl, rfl, (ir_Tm (ir_k7 213 rfl) rfl), (ir_Tm (ir_k7 214 rfl) rfl), (ir_Tm (ir_k1 17 rfl) rfl)⟩
def ir_nc0 : List (Nat × Nat × Nat × Nat) := [(4, 13, 9, 12), (4, 20, 8, 9), (5, 9, 9, 12), (5, 18, 8, 9), (9, 22, 1, 3), (11, 17, 5, 5), (11, 34, 8, 9), (11, 48, 10, 4), (11, 54, 4, 11), (11, 61, 0, 4), (11, 68, 2, 11), (11, 75, 3, 10), (11, 82, 7, 5), (11, 89, 6, 9), (13, 8, 11, 20), (13, 142, 12, 50)]
theorem ir_nd0 : ∀ e ∈ ir_nc0, ir_nP e := List.forall_mem_cons.mpr ⟨ir_n_0, List.forall_mem_cons.mpr ⟨ir_n_1, List.forall_mem_cons.mpr ⟨ir_n_2, List.forall_mem_cons.mpr ⟨ir_n_3, List.forall_mem_cons.mpr ⟨ir_n_4, List.forall_mem_cons.mpr ⟨ir_n_5, List.forall_mem_cons.mpr ⟨ir_n_6, List.forall_mem_cons.mpr ⟨ir_n_7, List.forall_mem_cons.mpr ⟨ir_n_8, List.forall_mem_cons.mpr ⟨ir_n_9, List.forall_mem_cons.mpr ⟨ir_n_10, List.forall_mem_cons.mpr ⟨ir_n_11, List.forall_mem_cons.mpr ⟨ir_n_12, List.forall_mem_cons.mpr ⟨ir_n_13, List.forall_mem_cons.mpr ⟨ir_n_14, List.forall_mem_cons.mpr ⟨ir_n_15, fun _ h => absurd h List.not_mem_nil⟩⟩⟩⟩⟩⟩⟩⟩⟩⟩⟩⟩⟩⟩⟩⟩
def ir_nL : List (Nat × Nat × Nat × Nat) := ir_nc0
theorem ir_n_ok : ∀ e ∈ ir_nL, ir_nP e := ir_nd0
def ir_anm (k : Nat) : String := match k with
  | 105 => "WellQueue$State"
  | 106 => "WellQueue$Scene"
  | _ => "WellQueue$Tray"
def ir_aP (e : Nat × Nat × Nat) : Prop := Cond.classLink (ir_on e.1) e.2.1 (ir_anm e.2.2) ∈ ir_Tb
theorem ir_a_0 : ir_aP (5, 18, 105) := (ir_Tm (ir_k1 138 rfl) rfl)
theorem ir_a_1 : ir_aP (11, 17, 106) := (ir_Tm (ir_k1 38 rfl) rfl)
theorem ir_a_2 : ir_aP (11, 48, 107) := (ir_Tm (ir_k1 223 rfl) rfl)
def ir_ac0 : List (Nat × Nat × Nat) := [(5, 18, 105), (11, 17, 106), (11, 48, 107)]
theorem ir_ad0 : ∀ e ∈ ir_ac0, ir_aP e := List.forall_mem_cons.mpr ⟨ir_a_0, List.forall_mem_cons.mpr ⟨ir_a_1, List.forall_mem_cons.mpr ⟨ir_a_2, fun _ h => absurd h List.not_mem_nil⟩⟩⟩
def ir_aL : List (Nat × Nat × Nat) := ir_ac0
theorem ir_a_ok : ∀ e ∈ ir_aL, ir_aP e := ir_ad0
def ir_own (own : String) (ic : Nat) (X Y : String) (ix : Nat) (bs : ByteArray) : List Cond := Bundle.throwableAtoms ++ (Bundle.throwableSAtoms ++ ((Bundle.passSAtoms X Y ix bs ++ Bundle.chainSAtoms Y ["java/lang/Exception"]) ++
  [.methodLink own ic (Bundle.initS X), .instantiable X 6, .castable X X, .selects X Bundle.tFill0 Bundle.tFill0, .selects X Bundle.tFill Bundle.tFill,
   .lays X Bundle.tN "cause" "Ljava/lang/Throwable;", .lays X Bundle.tN "stackTrace" Bundle.steD, .lays X Bundle.tN "suppressedExceptions" Bundle.listD, .lays X Bundle.tN "detailMessage" "Ljava/lang/String;",
   .isRef (.static Bundle.tN "UNASSIGNED_STACK" Bundle.steD), .isRef (.static Bundle.tN "SUPPRESSED_SENTINEL" Bundle.listD),
   .fieldLink Bundle.tN 198 Bundle.tN "backtrace" "Ljava/lang/Object;", .lays Bundle.tN Bundle.tN "backtrace" "Ljava/lang/Object;", .lays X Bundle.tN "backtrace" "Ljava/lang/Object;"]))
def ir_xix (e : Nat) : Nat := match e with
  | 1 => 13
  | _ => 7
def ir_xbs (e : Nat) : ByteArray := match e with
  | 1 => ⟨#[0x2a, 0x2b, 0xb7, 0x00, 0x0d, 0xb1]⟩
  | _ => Bundle.six
def ir_xws (o ic e : Nat) : List Cond := (ir_own (ir_on o) ic (ir_exn e) "java/lang/RuntimeException" (ir_xix e) (ir_xbs e)).filter vx_no
theorem ir_xg_3 : ∀ w ∈ (ir_xws 11 108 3).filter goodWord, w ∈ lw_tbl := by decide +kernel
theorem ir_xb_3 : ∀ w ∈ (ir_xws 11 108 3).filter (fun w => !goodWord w), w ∈ ir_NL := by decide +kernel
theorem ir_xo_3 : ∀ w ∈ ir_xws 11 108 3, vx_ot w = true := by decide +kernel
theorem ir_xg_1 : ∀ w ∈ (ir_xws 11 184 1).filter goodWord, w ∈ lw_tbl := by decide +kernel
theorem ir_xb_1 : ∀ w ∈ (ir_xws 11 184 1).filter (fun w => !goodWord w), w ∈ ir_NL := by decide +kernel
theorem ir_xo_1 : ∀ w ∈ ir_xws 11 184 1, vx_ot w = true := by decide +kernel
theorem ir_xg_2 : ∀ w ∈ (ir_xws 11 220 2).filter goodWord, w ∈ lw_tbl := by decide +kernel
theorem ir_xb_2 : ∀ w ∈ (ir_xws 11 220 2).filter (fun w => !goodWord w), w ∈ ir_NL := by decide +kernel
theorem ir_xo_2 : ∀ w ∈ ir_xws 11 220 2, vx_ot w = true := by decide +kernel
theorem ir_xg_4 : ∀ w ∈ (ir_xws 11 439 4).filter goodWord, w ∈ lw_tbl := by decide +kernel
theorem ir_xb_4 : ∀ w ∈ (ir_xws 11 439 4).filter (fun w => !goodWord w), w ∈ ir_NL := by decide +kernel
theorem ir_xo_4 : ∀ w ∈ ir_xws 11 439 4, vx_ot w = true := by decide +kernel
theorem ir_xw {L : List Cond} (h1 : ∀ w ∈ L.filter goodWord, w ∈ lw_tbl) (h2 : ∀ w ∈ L.filter (fun w => !goodWord w), w ∈ ir_NL) : ∀ w ∈ L, w ∈ ir_Tb ∨ w ∈ ir_NL := by
  intro w hw
  by_cases g : goodWord w = true
  · exact Or.inl (List.mem_filter.mpr ⟨h1 w (List.mem_filter.mpr ⟨hw, g⟩), g⟩)
  · exact Or.inr (h2 w (List.mem_filter.mpr ⟨hw, by simpa using g⟩))
def ir_xP (e : Nat × Nat × Nat × Nat) : Prop := Cond.classLink (ir_on e.1) e.2.1 (ir_exn e.2.2.1) ∈ ir_Tb ∧ Cond.initialized (ir_exn e.2.2.1) ∈ ir_Tb ∧ (∀ w ∈ ir_xws e.1 e.2.2.2 e.2.2.1, w ∈ ir_Tb ∨ w ∈ ir_NL) ∧ (∀ w ∈ ir_xws e.1 e.2.2.2 e.2.2.1, vx_ot w = true) ∧ Bundle.fit (ir_exn e.2.2.1) = true
theorem ir_x_0 : ir_xP (11, 104, 3, 108) := ⟨(ir_Tm (ir_k4 44 rfl) rfl), (ir_Tm (ir_k1 21 rfl) rfl), ir_xw ir_xg_3 ir_xb_3, ir_xo_3, by decide +kernel⟩
theorem ir_x_1 : ir_xP (11, 180, 1, 184) := ⟨(ir_Tm (ir_k5 84 rfl) rfl), (ir_Tm (ir_k1 26 rfl) rfl), ir_xw ir_xg_1 ir_xb_1, ir_xo_1, by decide +kernel⟩
theorem ir_x_2 : ir_xP (11, 216, 2, 220) := ⟨(ir_Tm (ir_k5 162 rfl) rfl), (ir_Tm (ir_k1 27 rfl) rfl), ir_xw ir_xg_2 ir_xb_2, ir_xo_2, by decide +kernel⟩
theorem ir_x_3 : ir_xP (11, 435, 4, 439) := ⟨(ir_Tm (ir_k7 158 rfl) rfl), (ir_Tm (ir_k1 29 rfl) rfl), ir_xw ir_xg_4 ir_xb_4, ir_xo_4, by decide +kernel⟩
def ir_xc0 : List (Nat × Nat × Nat × Nat) := [(11, 104, 3, 108), (11, 180, 1, 184), (11, 216, 2, 220), (11, 435, 4, 439)]
theorem ir_xd0 : ∀ e ∈ ir_xc0, ir_xP e := List.forall_mem_cons.mpr ⟨ir_x_0, List.forall_mem_cons.mpr ⟨ir_x_1, List.forall_mem_cons.mpr ⟨ir_x_2, List.forall_mem_cons.mpr ⟨ir_x_3, fun _ h => absurd h List.not_mem_nil⟩⟩⟩⟩
def ir_xL : List (Nat × Nat × Nat × Nat) := ir_xc0
theorem ir_x_ok : ∀ e ∈ ir_xL, ir_xP e := ir_xd0
def ir_hcP (e : Nat × Nat × Nat) : Prop := Cond.classLink (ir_on e.1) e.2.1 (ir_exn e.2.2) ∈ ir_Tb ∧ Cond.castable (ir_exn e.2.2) (ir_exn e.2.2) ∈ ir_NL ∧ e.2.1 ≠ 0
theorem ir_hc_0 : ir_hcP (13, 13, 3) := ⟨(ir_Tm (ir_k4 39 rfl) rfl), (ir_Nm (ir_k4 46 rfl) rfl), by decide⟩
theorem ir_hc_1 : ir_hcP (13, 19, 1) := ⟨(ir_Tm (ir_k5 75 rfl) rfl), (ir_Nm (ir_k5 86 rfl) rfl), by decide⟩
theorem ir_hc_2 : ir_hcP (13, 34, 2) := ⟨(ir_Tm (ir_k5 153 rfl) rfl), (ir_Nm (ir_k5 164 rfl) rfl), by decide⟩
theorem ir_hc_3 : ir_hcP (13, 129, 4) := ⟨(ir_Tm (ir_k7 153 rfl) rfl), (ir_Nm (ir_k7 160 rfl) rfl), by decide⟩
def ir_hcc0 : List (Nat × Nat × Nat) := [(13, 13, 3), (13, 19, 1), (13, 34, 2), (13, 129, 4)]
theorem ir_hcd0 : ∀ e ∈ ir_hcc0, ir_hcP e := List.forall_mem_cons.mpr ⟨ir_hc_0, List.forall_mem_cons.mpr ⟨ir_hc_1, List.forall_mem_cons.mpr ⟨ir_hc_2, List.forall_mem_cons.mpr ⟨ir_hc_3, fun _ h => absurd h List.not_mem_nil⟩⟩⟩⟩
def ir_hcL : List (Nat × Nat × Nat) := ir_hcc0
theorem ir_hc_ok : ∀ e ∈ ir_hcL, ir_hcP e := ir_hcd0
def ir_yP (e : Nat × Nat) : Prop := Cond.methodLink (ir_on e.1) e.2 arraycopyName ∈ ir_Tb
theorem ir_y_0 : ir_yP (1, 22) := (ir_Tm (ir_k5 71 rfl) rfl)
theorem ir_y_1 : ir_yP (2, 114) := (ir_Tm (ir_k3 238 rfl) rfl)
theorem ir_y_2 : ir_yP (3, 94) := (ir_Tm (ir_k6 195 rfl) rfl)
theorem ir_y_3 : ir_yP (6, 97) := (ir_Tm (ir_k7 107 rfl) rfl)
theorem ir_y_4 : ir_yP (8, 47) := (ir_Tm (ir_k3 176 rfl) rfl)
theorem ir_y_5 : ir_yP (9, 63) := (ir_Tm (ir_k5 66 rfl) rfl)
def ir_yc0 : List (Nat × Nat) := [(1, 22), (2, 114), (3, 94), (6, 97), (8, 47), (9, 63)]
theorem ir_yd0 : ∀ e ∈ ir_yc0, ir_yP e := List.forall_mem_cons.mpr ⟨ir_y_0, List.forall_mem_cons.mpr ⟨ir_y_1, List.forall_mem_cons.mpr ⟨ir_y_2, List.forall_mem_cons.mpr ⟨ir_y_3, List.forall_mem_cons.mpr ⟨ir_y_4, List.forall_mem_cons.mpr ⟨ir_y_5, fun _ h => absurd h List.not_mem_nil⟩⟩⟩⟩⟩⟩
def ir_yL : List (Nat × Nat) := ir_yc0
theorem ir_y_ok : ∀ e ∈ ir_yL, ir_yP e := ir_yd0
theorem ir_sys : Cond.native arraycopyName ∈ ir_Tb ∧ Cond.static arraycopyName ∈ ir_Tb ∧ Cond.initialized "java/lang/System" ∈ ir_Tb := ⟨(ir_Tm (ir_k3 178 rfl) rfl), (ir_Tm (ir_k3 177 rfl) rfl), (ir_Tm (ir_k1 25 rfl) rfl)⟩
def ir_oP2 (e : Nat × Nat) : Prop := Cond.methodLink (ir_on e.1) e.2 Lib.objectInit ∈ ir_Tb
def ir_zP (e : Nat × Nat) : Prop := ir_oP2 e
theorem ir_z_0 : ir_zP (0, 3) := (ir_Tm (ir_k2 86 rfl) rfl)
theorem ir_z_1 : ir_zP (1, 5) := (ir_Tm (ir_k1 55 rfl) rfl)
theorem ir_z_2 : ir_zP (2, 3) := (ir_Tm (ir_k2 111 rfl) rfl)
theorem ir_z_3 : ir_zP (3, 3) := (ir_Tm (ir_k2 156 rfl) rfl)
theorem ir_z_4 : ir_zP (4, 7) := (ir_Tm (ir_k1 230 rfl) rfl)
theorem ir_z_5 : ir_zP (5, 3) := (ir_Tm (ir_k1 43 rfl) rfl)
theorem ir_z_6 : ir_zP (6, 3) := (ir_Tm (ir_k2 217 rfl) rfl)
theorem ir_z_7 : ir_zP (7, 3) := (ir_Tm (ir_k2 195 rfl) rfl)
theorem ir_z_8 : ir_zP (8, 3) := (ir_Tm (ir_k1 143 rfl) rfl)
theorem ir_z_9 : ir_zP (9, 3) := (ir_Tm (ir_k1 49 rfl) rfl)
theorem ir_z_10 : ir_zP (10, 3) := (ir_Tm (ir_k3 11 rfl) rfl)
theorem ir_z_11 : ir_zP (11, 1) := (ir_Tm (ir_k1 35 rfl) rfl)
theorem ir_z_12 : ir_zP (12, 1) := (ir_Tm (ir_k7 218 rfl) rfl)
def ir_zc0 : List (Nat × Nat) := [(0, 3), (1, 5), (2, 3), (3, 3), (4, 7), (5, 3), (6, 3), (7, 3), (8, 3), (9, 3), (10, 3), (11, 1), (12, 1)]
theorem ir_zd0 : ∀ e ∈ ir_zc0, ir_zP e := List.forall_mem_cons.mpr ⟨ir_z_0, List.forall_mem_cons.mpr ⟨ir_z_1, List.forall_mem_cons.mpr ⟨ir_z_2, List.forall_mem_cons.mpr ⟨ir_z_3, List.forall_mem_cons.mpr ⟨ir_z_4, List.forall_mem_cons.mpr ⟨ir_z_5, List.forall_mem_cons.mpr ⟨ir_z_6, List.forall_mem_cons.mpr ⟨ir_z_7, List.forall_mem_cons.mpr ⟨ir_z_8, List.forall_mem_cons.mpr ⟨ir_z_9, List.forall_mem_cons.mpr ⟨ir_z_10, List.forall_mem_cons.mpr ⟨ir_z_11, List.forall_mem_cons.mpr ⟨ir_z_12, fun _ h => absurd h List.not_mem_nil⟩⟩⟩⟩⟩⟩⟩⟩⟩⟩⟩⟩⟩
def ir_zL : List (Nat × Nat) := ir_zc0
theorem ir_z_ok : ∀ e ∈ ir_zL, ir_zP e := ir_zd0
theorem ir_obj : Cond.instanceMethod Lib.objectInit ∈ ir_Tb ∧ Cond.code Lib.objectInit ⟨#[0xb1]⟩ 1 none ∈ ir_Tb := ⟨(ir_Tm (ir_k1 36 rfl) rfl), (ir_Tm (ir_k1 37 rfl) rfl)⟩
def ir_mth (k : Nat) : MethodName := match k with
  | 5 => Lib.Math.max.name
  | 6 => Lib.Math.min.name
  | 7 => Lib.Math.abs.name
  | 8 => Lib.MathLoose.max_long.x
  | _ => Lib.MathLoose.min_long.x
def ir_uP (e : Nat × Nat × Nat) : Prop := Cond.methodLink (ir_on e.1) e.2.1 (ir_mth e.2.2) ∈ ir_Tb
theorem ir_u_0 : ir_uP (0, 26, 6) := (ir_Tm (ir_k3 145 rfl) rfl)
theorem ir_u_1 : ir_uP (0, 32, 5) := (ir_Tm (ir_k3 148 rfl) rfl)
theorem ir_u_2 : ir_uP (4, 43, 6) := (ir_Tm (ir_k4 116 rfl) rfl)
theorem ir_u_3 : ir_uP (4, 49, 5) := (ir_Tm (ir_k4 117 rfl) rfl)
theorem ir_u_4 : ir_uP (7, 57, 5) := (ir_Tm (ir_k7 34 rfl) rfl)
theorem ir_u_5 : ir_uP (11, 444, 6) := (ir_Tm (ir_k7 189 rfl) rfl)
theorem ir_u_6 : ir_uP (11, 507, 7) := (ir_Tm (ir_k3 183 rfl) rfl)
theorem ir_u_7 : ir_uP (11, 513, 8) := (ir_Tm (ir_k6 34 rfl) rfl)
theorem ir_u_8 : ir_uP (12, 283, 9) := (ir_Tm (ir_k9 118 rfl) rfl)
theorem ir_u_9 : ir_uP (12, 289, 8) := (ir_Tm (ir_k9 121 rfl) rfl)
theorem ir_u_10 : ir_uP (12, 311, 6) := (ir_Tm (ir_k9 133 rfl) rfl)
theorem ir_u_11 : ir_uP (12, 313, 5) := (ir_Tm (ir_k9 134 rfl) rfl)
theorem ir_u_12 : ir_uP (12, 392, 7) := (ir_Tm (ir_k10 12 rfl) rfl)
theorem ir_u_13 : ir_uP (15, 38, 6) := (ir_Tm (ir_k4 170 rfl) rfl)
theorem ir_u_14 : ir_uP (15, 92, 5) := (ir_Tm (ir_k4 169 rfl) rfl)
def ir_uc0 : List (Nat × Nat × Nat) := [(0, 26, 6), (0, 32, 5), (4, 43, 6), (4, 49, 5), (7, 57, 5), (11, 444, 6), (11, 507, 7), (11, 513, 8), (12, 283, 9), (12, 289, 8), (12, 311, 6), (12, 313, 5), (12, 392, 7), (15, 38, 6), (15, 92, 5)]
theorem ir_ud0 : ∀ e ∈ ir_uc0, ir_uP e := List.forall_mem_cons.mpr ⟨ir_u_0, List.forall_mem_cons.mpr ⟨ir_u_1, List.forall_mem_cons.mpr ⟨ir_u_2, List.forall_mem_cons.mpr ⟨ir_u_3, List.forall_mem_cons.mpr ⟨ir_u_4, List.forall_mem_cons.mpr ⟨ir_u_5, List.forall_mem_cons.mpr ⟨ir_u_6, List.forall_mem_cons.mpr ⟨ir_u_7, List.forall_mem_cons.mpr ⟨ir_u_8, List.forall_mem_cons.mpr ⟨ir_u_9, List.forall_mem_cons.mpr ⟨ir_u_10, List.forall_mem_cons.mpr ⟨ir_u_11, List.forall_mem_cons.mpr ⟨ir_u_12, List.forall_mem_cons.mpr ⟨ir_u_13, List.forall_mem_cons.mpr ⟨ir_u_14, fun _ h => absurd h List.not_mem_nil⟩⟩⟩⟩⟩⟩⟩⟩⟩⟩⟩⟩⟩⟩⟩
def ir_uL : List (Nat × Nat × Nat) := ir_uc0
theorem ir_u_ok : ∀ e ∈ ir_uL, ir_uP e := ir_ud0
theorem ir_mt_5 : Cond.static Lib.Math.max.name ∈ ir_Tb ∧ Cond.initialized "java/lang/Math" ∈ ir_Tb ∧ Cond.code Lib.Math.max.name Lib.Math.max.code 2 (some .int) ∈ ir_Tb := ⟨(ir_Tm (ir_k3 149 rfl) rfl), (ir_Tm (ir_k1 22 rfl) rfl), (ir_Tm (ir_k3 150 rfl) rfl)⟩
theorem ir_mt_6 : Cond.static Lib.Math.min.name ∈ ir_Tb ∧ Cond.initialized "java/lang/Math" ∈ ir_Tb ∧ Cond.code Lib.Math.min.name Lib.Math.min.code 2 (some .int) ∈ ir_Tb := ⟨(ir_Tm (ir_k3 146 rfl) rfl), (ir_Tm (ir_k1 22 rfl) rfl), (ir_Tm (ir_k3 147 rfl) rfl)⟩
theorem ir_mt_7 : Cond.static Lib.Math.abs.name ∈ ir_Tb ∧ Cond.initialized "java/lang/Math" ∈ ir_Tb ∧ Cond.code Lib.Math.abs.name Lib.Math.abs.code 1 (some .int) ∈ ir_Tb := ⟨(ir_Tm (ir_k3 184 rfl) rfl), (ir_Tm (ir_k1 22 rfl) rfl), (ir_Tm (ir_k3 185 rfl) rfl)⟩
theorem ir_mt_8 : Cond.static Lib.MathLoose.max_long.x ∈ ir_Tb ∧ Cond.initialized "java/lang/Math" ∈ ir_Tb ∧ Cond.code Lib.MathLoose.max_long.x Lib.MathLoose.max_long.code 4 (some .long) ∈ ir_Tb := ⟨(ir_Tm (ir_k6 35 rfl) rfl), (ir_Tm (ir_k1 22 rfl) rfl), (ir_Tm (ir_k6 36 rfl) rfl)⟩
theorem ir_mt_9 : Cond.static Lib.MathLoose.min_long.x ∈ ir_Tb ∧ Cond.initialized "java/lang/Math" ∈ ir_Tb ∧ Cond.code Lib.MathLoose.min_long.x Lib.MathLoose.min_long.code 4 (some .long) ∈ ir_Tb := ⟨(ir_Tm (ir_k9 119 rfl) rfl), (ir_Tm (ir_k1 22 rfl) rfl), (ir_Tm (ir_k9 120 rfl) rfl)⟩
theorem ir_ac_byte : Cond.arrayClass .byte ∈ ir_Tb := (ir_Tm (ir_k1 66 rfl) rfl)
theorem ir_ac_int : Cond.arrayClass .int ∈ ir_Tb := (ir_Tm (ir_k1 67 rfl) rfl)
theorem ir_ac_boolean : Cond.arrayClass .boolean ∈ ir_Tb := (ir_Tm (ir_k2 79 rfl) rfl)
theorem ir_ac_char : Cond.arrayClass .char ∈ ir_Tb := (ir_Tm (ir_k2 80 rfl) rfl)
theorem ir_ac_long : Cond.arrayClass .long ∈ ir_Tb := (ir_Tm (ir_k3 6 rfl) rfl)
def ir_clP (c : Nat) (q : vw_C) : Prop := (∀ v ∈ u_ws q.1 q.2.1 q.2.2, v ∈ ir_Tb) ∧ (∃ ty : Nat → FieldType, (∀ k, k < q.2.2 → parseFieldDescriptor (q.2.1 k).2.2.1 = some (ty k)) ∧ (∀ k, k < q.2.2 → (ir_ft c)[k]? = some (ir_tyc (ty k))) ∧ ∀ k, k < q.2.2 → ir_tyc (ty k) ≤ 3) ∧ (∀ a, a < q.2.2 → ∀ b, b < q.2.2 → a ≠ b → (q.2.1 a).2.1 ≠ (q.2.1 b).2.1) ∧ q.2.2 = (ir_ft c).length
theorem ir_uws {C : String} {T : u_T} {N : Nat} (h : ∀ k, k < N → u_lay C T k ∈ ir_Tb) : ∀ v ∈ u_ws C T N, v ∈ ir_Tb := by
  intro v hv
  obtain ⟨k, hk, rfl⟩ := List.mem_map.mp hv
  exact h k (List.mem_range.mp hk)
theorem ir_uw_0 : ∀ k, k < 4 → u_lay RX0 TX0 k ∈ ir_Tb
  | 0, _ => (ir_Tm (ir_k2 97 rfl) rfl)
  | 1, _ => (ir_Tm (ir_k2 99 rfl) rfl)
  | 2, _ => (ir_Tm (ir_k2 101 rfl) rfl)
  | 3, _ => (ir_Tm (ir_k2 103 rfl) rfl)
  | k + 4, h => absurd h (by omega)
theorem ir_cl_0 : ir_clP 0 (RX0, TX0, 4) := ⟨ir_uws ir_uw_0, ⟨tyX0, tyX0_ok, by decide +kernel, by decide +kernel⟩, nmX0, rfl⟩
theorem ir_uw_1 : ∀ k, k < 3 → u_lay RX1 TX1 k ∈ ir_Tb
  | 0, _ => (ir_Tm (ir_k1 59 rfl) rfl)
  | 1, _ => (ir_Tm (ir_k1 61 rfl) rfl)
  | 2, _ => (ir_Tm (ir_k1 63 rfl) rfl)
  | k + 3, h => absurd h (by omega)
theorem ir_cl_1 : ir_clP 1 (RX1, TX1, 3) := ⟨ir_uws ir_uw_1, ⟨tyX1, tyX1_ok, by decide +kernel, by decide +kernel⟩, nmX1, rfl⟩
theorem ir_uw_2 : ∀ k, k < 11 → u_lay RX2 TX2 k ∈ ir_Tb
  | 0, _ => (ir_Tm (ir_k2 128 rfl) rfl)
  | 1, _ => (ir_Tm (ir_k2 130 rfl) rfl)
  | 2, _ => (ir_Tm (ir_k2 132 rfl) rfl)
  | 3, _ => (ir_Tm (ir_k2 134 rfl) rfl)
  | 4, _ => (ir_Tm (ir_k2 136 rfl) rfl)
  | 5, _ => (ir_Tm (ir_k2 138 rfl) rfl)
  | 6, _ => (ir_Tm (ir_k2 140 rfl) rfl)
  | 7, _ => (ir_Tm (ir_k2 142 rfl) rfl)
  | 8, _ => (ir_Tm (ir_k2 144 rfl) rfl)
  | 9, _ => (ir_Tm (ir_k2 146 rfl) rfl)
  | 10, _ => (ir_Tm (ir_k2 148 rfl) rfl)
  | k + 11, h => absurd h (by omega)
theorem ir_cl_2 : ir_clP 2 (RX2, TX2, 11) := ⟨ir_uws ir_uw_2, ⟨tyX2, tyX2_ok, by decide +kernel, by decide +kernel⟩, nmX2, rfl⟩
theorem ir_uw_3 : ∀ k, k < 10 → u_lay RX3 TX3 k ∈ ir_Tb
  | 0, _ => (ir_Tm (ir_k2 169 rfl) rfl)
  | 1, _ => (ir_Tm (ir_k2 171 rfl) rfl)
  | 2, _ => (ir_Tm (ir_k2 173 rfl) rfl)
  | 3, _ => (ir_Tm (ir_k2 175 rfl) rfl)
  | 4, _ => (ir_Tm (ir_k2 177 rfl) rfl)
  | 5, _ => (ir_Tm (ir_k2 179 rfl) rfl)
  | 6, _ => (ir_Tm (ir_k2 181 rfl) rfl)
  | 7, _ => (ir_Tm (ir_k2 183 rfl) rfl)
  | 8, _ => (ir_Tm (ir_k2 185 rfl) rfl)
  | 9, _ => (ir_Tm (ir_k2 187 rfl) rfl)
  | k + 10, h => absurd h (by omega)
theorem ir_cl_3 : ir_clP 3 (RX3, TX3, 10) := ⟨ir_uws ir_uw_3, ⟨tyX3, tyX3_ok, by decide +kernel, by decide +kernel⟩, nmX3, rfl⟩
theorem ir_uw_4 : ∀ k, k < 11 → u_lay RX4 TX4 k ∈ ir_Tb
  | 0, _ => (ir_Tm (ir_k2 56 rfl) rfl)
  | 1, _ => (ir_Tm (ir_k2 58 rfl) rfl)
  | 2, _ => (ir_Tm (ir_k2 60 rfl) rfl)
  | 3, _ => (ir_Tm (ir_k2 62 rfl) rfl)
  | 4, _ => (ir_Tm (ir_k2 64 rfl) rfl)
  | 5, _ => (ir_Tm (ir_k2 66 rfl) rfl)
  | 6, _ => (ir_Tm (ir_k2 68 rfl) rfl)
  | 7, _ => (ir_Tm (ir_k2 70 rfl) rfl)
  | 8, _ => (ir_Tm (ir_k2 72 rfl) rfl)
  | 9, _ => (ir_Tm (ir_k2 74 rfl) rfl)
  | 10, _ => (ir_Tm (ir_k2 76 rfl) rfl)
  | k + 11, h => absurd h (by omega)
theorem ir_cl_4 : ir_clP 4 (RX4, TX4, 11) := ⟨ir_uws ir_uw_4, ⟨tyX4, tyX4_ok, by decide +kernel, by decide +kernel⟩, nmX4, rfl⟩
theorem ir_uw_5 : ∀ k, k < 5 → u_lay RX5 TX5 k ∈ ir_Tb
  | 0, _ => (ir_Tm (ir_k1 209 rfl) rfl)
  | 1, _ => (ir_Tm (ir_k1 211 rfl) rfl)
  | 2, _ => (ir_Tm (ir_k1 213 rfl) rfl)
  | 3, _ => (ir_Tm (ir_k1 215 rfl) rfl)
  | 4, _ => (ir_Tm (ir_k1 217 rfl) rfl)
  | k + 5, h => absurd h (by omega)
theorem ir_cl_5 : ir_clP 5 (RX5, TX5, 5) := ⟨ir_uws ir_uw_5, ⟨tyX5, tyX5_ok, by decide +kernel, by decide +kernel⟩, nmX5, rfl⟩
theorem ir_uw_6 : ∀ k, k < 9 → u_lay RX6 TX6 k ∈ ir_Tb
  | 0, _ => (ir_Tm (ir_k2 227 rfl) rfl)
  | 1, _ => (ir_Tm (ir_k2 229 rfl) rfl)
  | 2, _ => (ir_Tm (ir_k2 231 rfl) rfl)
  | 3, _ => (ir_Tm (ir_k2 233 rfl) rfl)
  | 4, _ => (ir_Tm (ir_k2 235 rfl) rfl)
  | 5, _ => (ir_Tm (ir_k2 237 rfl) rfl)
  | 6, _ => (ir_Tm (ir_k2 239 rfl) rfl)
  | 7, _ => (ir_Tm (ir_k3 1 rfl) rfl)
  | 8, _ => (ir_Tm (ir_k3 3 rfl) rfl)
  | k + 9, h => absurd h (by omega)
theorem ir_cl_6 : ir_clP 6 (RX6, TX6, 9) := ⟨ir_uws ir_uw_6, ⟨tyX6, tyX6_ok, by decide +kernel, by decide +kernel⟩, nmX6, rfl⟩
theorem ir_uw_7 : ∀ k, k < 5 → u_lay RX7 TX7 k ∈ ir_Tb
  | 0, _ => (ir_Tm (ir_k2 201 rfl) rfl)
  | 1, _ => (ir_Tm (ir_k2 203 rfl) rfl)
  | 2, _ => (ir_Tm (ir_k2 205 rfl) rfl)
  | 3, _ => (ir_Tm (ir_k2 207 rfl) rfl)
  | 4, _ => (ir_Tm (ir_k2 209 rfl) rfl)
  | k + 5, h => absurd h (by omega)
theorem ir_cl_7 : ir_clP 7 (RX7, TX7, 5) := ⟨ir_uws ir_uw_7, ⟨tyX7, tyX7_ok, by decide +kernel, by decide +kernel⟩, nmX7, rfl⟩
theorem ir_uw_8 : ∀ k, k < 9 → u_lay RX8 TX8 k ∈ ir_Tb
  | 0, _ => (ir_Tm (ir_k1 181 rfl) rfl)
  | 1, _ => (ir_Tm (ir_k1 183 rfl) rfl)
  | 2, _ => (ir_Tm (ir_k1 185 rfl) rfl)
  | 3, _ => (ir_Tm (ir_k1 187 rfl) rfl)
  | 4, _ => (ir_Tm (ir_k1 189 rfl) rfl)
  | 5, _ => (ir_Tm (ir_k1 191 rfl) rfl)
  | 6, _ => (ir_Tm (ir_k1 193 rfl) rfl)
  | 7, _ => (ir_Tm (ir_k1 195 rfl) rfl)
  | 8, _ => (ir_Tm (ir_k1 197 rfl) rfl)
  | k + 9, h => absurd h (by omega)
theorem ir_cl_8 : ir_clP 8 (RX8, TX8, 9) := ⟨ir_uws ir_uw_8, ⟨tyX8, tyX8_ok, by decide +kernel, by decide +kernel⟩, nmX8, rfl⟩
theorem ir_uw_9 : ∀ k, k < 12 → u_lay RX9 TX9 k ∈ ir_Tb
  | 0, _ => (ir_Tm (ir_k1 113 rfl) rfl)
  | 1, _ => (ir_Tm (ir_k1 115 rfl) rfl)
  | 2, _ => (ir_Tm (ir_k1 117 rfl) rfl)
  | 3, _ => (ir_Tm (ir_k1 119 rfl) rfl)
  | 4, _ => (ir_Tm (ir_k1 121 rfl) rfl)
  | 5, _ => (ir_Tm (ir_k1 123 rfl) rfl)
  | 6, _ => (ir_Tm (ir_k1 125 rfl) rfl)
  | 7, _ => (ir_Tm (ir_k1 127 rfl) rfl)
  | 8, _ => (ir_Tm (ir_k1 129 rfl) rfl)
  | 9, _ => (ir_Tm (ir_k1 131 rfl) rfl)
  | 10, _ => (ir_Tm (ir_k1 133 rfl) rfl)
  | 11, _ => (ir_Tm (ir_k1 135 rfl) rfl)
  | k + 12, h => absurd h (by omega)
theorem ir_cl_9 : ir_clP 9 (RX9, TX9, 12) := ⟨ir_uws ir_uw_9, ⟨tyX9, tyX9_ok, by decide +kernel, by decide +kernel⟩, nmX9, rfl⟩
theorem ir_uw_10 : ∀ k, k < 4 → u_lay RX10 TX10 k ∈ ir_Tb
  | 0, _ => (ir_Tm (ir_k3 18 rfl) rfl)
  | 1, _ => (ir_Tm (ir_k3 20 rfl) rfl)
  | 2, _ => (ir_Tm (ir_k3 22 rfl) rfl)
  | 3, _ => (ir_Tm (ir_k3 24 rfl) rfl)
  | k + 4, h => absurd h (by omega)
theorem ir_cl_10 : ir_clP 10 (RX10, TX10, 4) := ⟨ir_uws ir_uw_10, ⟨tyX10, tyX10_ok, by decide +kernel, by decide +kernel⟩, nmX10, rfl⟩
theorem ir_uw_11 : ∀ k, k < 20 → u_lay RX11 TX11 k ∈ ir_Tb
  | 0, _ => (ir_Tm (ir_k3 47 rfl) rfl)
  | 1, _ => (ir_Tm (ir_k3 49 rfl) rfl)
  | 2, _ => (ir_Tm (ir_k3 51 rfl) rfl)
  | 3, _ => (ir_Tm (ir_k3 53 rfl) rfl)
  | 4, _ => (ir_Tm (ir_k3 55 rfl) rfl)
  | 5, _ => (ir_Tm (ir_k3 57 rfl) rfl)
  | 6, _ => (ir_Tm (ir_k3 59 rfl) rfl)
  | 7, _ => (ir_Tm (ir_k3 61 rfl) rfl)
  | 8, _ => (ir_Tm (ir_k3 63 rfl) rfl)
  | 9, _ => (ir_Tm (ir_k3 65 rfl) rfl)
  | 10, _ => (ir_Tm (ir_k3 67 rfl) rfl)
  | 11, _ => (ir_Tm (ir_k3 69 rfl) rfl)
  | 12, _ => (ir_Tm (ir_k3 71 rfl) rfl)
  | 13, _ => (ir_Tm (ir_k3 73 rfl) rfl)
  | 14, _ => (ir_Tm (ir_k3 75 rfl) rfl)
  | 15, _ => (ir_Tm (ir_k3 77 rfl) rfl)
  | 16, _ => (ir_Tm (ir_k3 79 rfl) rfl)
  | 17, _ => (ir_Tm (ir_k3 81 rfl) rfl)
  | 18, _ => (ir_Tm (ir_k3 83 rfl) rfl)
  | 19, _ => (ir_Tm (ir_k3 85 rfl) rfl)
  | k + 20, h => absurd h (by omega)
theorem ir_cl_11 : ir_clP 11 (RX11, TX11, 20) := ⟨ir_uws ir_uw_11, ⟨tyX11, tyX11_ok, by decide +kernel, by decide +kernel⟩, nmX11, rfl⟩
theorem ir_uw_12 : ∀ k, k < 50 → u_lay RX12 TX12 k ∈ ir_Tb
  | 0, _ => (ir_Tm (ir_k8 29 rfl) rfl)
  | 1, _ => (ir_Tm (ir_k8 31 rfl) rfl)
  | 2, _ => (ir_Tm (ir_k8 33 rfl) rfl)
  | 3, _ => (ir_Tm (ir_k8 35 rfl) rfl)
  | 4, _ => (ir_Tm (ir_k8 37 rfl) rfl)
  | 5, _ => (ir_Tm (ir_k8 39 rfl) rfl)
  | 6, _ => (ir_Tm (ir_k8 41 rfl) rfl)
  | 7, _ => (ir_Tm (ir_k8 43 rfl) rfl)
  | 8, _ => (ir_Tm (ir_k8 45 rfl) rfl)
  | 9, _ => (ir_Tm (ir_k8 47 rfl) rfl)
  | 10, _ => (ir_Tm (ir_k8 49 rfl) rfl)
  | 11, _ => (ir_Tm (ir_k8 51 rfl) rfl)
  | 12, _ => (ir_Tm (ir_k8 53 rfl) rfl)
  | 13, _ => (ir_Tm (ir_k8 55 rfl) rfl)
  | 14, _ => (ir_Tm (ir_k8 57 rfl) rfl)
  | 15, _ => (ir_Tm (ir_k8 59 rfl) rfl)
  | 16, _ => (ir_Tm (ir_k8 61 rfl) rfl)
  | 17, _ => (ir_Tm (ir_k8 63 rfl) rfl)
  | 18, _ => (ir_Tm (ir_k8 65 rfl) rfl)
  | 19, _ => (ir_Tm (ir_k8 67 rfl) rfl)
  | 20, _ => (ir_Tm (ir_k8 69 rfl) rfl)
  | 21, _ => (ir_Tm (ir_k8 71 rfl) rfl)
  | 22, _ => (ir_Tm (ir_k8 73 rfl) rfl)
  | 23, _ => (ir_Tm (ir_k8 75 rfl) rfl)
  | 24, _ => (ir_Tm (ir_k8 77 rfl) rfl)
  | 25, _ => (ir_Tm (ir_k8 79 rfl) rfl)
  | 26, _ => (ir_Tm (ir_k8 81 rfl) rfl)
  | 27, _ => (ir_Tm (ir_k8 83 rfl) rfl)
  | 28, _ => (ir_Tm (ir_k8 85 rfl) rfl)
  | 29, _ => (ir_Tm (ir_k8 87 rfl) rfl)
  | 30, _ => (ir_Tm (ir_k8 89 rfl) rfl)
  | 31, _ => (ir_Tm (ir_k8 91 rfl) rfl)
  | 32, _ => (ir_Tm (ir_k8 93 rfl) rfl)
  | 33, _ => (ir_Tm (ir_k8 95 rfl) rfl)
  | 34, _ => (ir_Tm (ir_k8 97 rfl) rfl)
  | 35, _ => (ir_Tm (ir_k8 99 rfl) rfl)
  | 36, _ => (ir_Tm (ir_k8 101 rfl) rfl)
  | 37, _ => (ir_Tm (ir_k8 103 rfl) rfl)
  | 38, _ => (ir_Tm (ir_k8 105 rfl) rfl)
  | 39, _ => (ir_Tm (ir_k8 107 rfl) rfl)
  | 40, _ => (ir_Tm (ir_k8 109 rfl) rfl)
  | 41, _ => (ir_Tm (ir_k8 111 rfl) rfl)
  | 42, _ => (ir_Tm (ir_k8 113 rfl) rfl)
  | 43, _ => (ir_Tm (ir_k8 115 rfl) rfl)
  | 44, _ => (ir_Tm (ir_k8 117 rfl) rfl)
  | 45, _ => (ir_Tm (ir_k8 119 rfl) rfl)
  | 46, _ => (ir_Tm (ir_k8 121 rfl) rfl)
  | 47, _ => (ir_Tm (ir_k8 123 rfl) rfl)
  | 48, _ => (ir_Tm (ir_k8 125 rfl) rfl)
  | 49, _ => (ir_Tm (ir_k8 127 rfl) rfl)
  | k + 50, h => absurd h (by omega)
theorem ir_cl_12 : ir_clP 12 (RX12, TX12, 50) := ⟨ir_uws ir_uw_12, ⟨tyX12, tyX12_ok, by decide +kernel, by decide +kernel⟩, nmX12, rfl⟩
theorem ir_cl_ok : ∀ (c : Nat) (q : vw_C), vwCl[c]? = some q → ir_clP c q
  | 0, _, rfl => ir_cl_0
  | 1, _, rfl => ir_cl_1
  | 2, _, rfl => ir_cl_2
  | 3, _, rfl => ir_cl_3
  | 4, _, rfl => ir_cl_4
  | 5, _, rfl => ir_cl_5
  | 6, _, rfl => ir_cl_6
  | 7, _, rfl => ir_cl_7
  | 8, _, rfl => ir_cl_8
  | 9, _, rfl => ir_cl_9
  | 10, _, rfl => ir_cl_10
  | 11, _, rfl => ir_cl_11
  | 12, _, rfl => ir_cl_12
  | c + 13, _, h => nomatch h
