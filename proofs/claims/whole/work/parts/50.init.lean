/-! WHAT HOLDS AT THE LAW'S ENTRY -/
def ir_fl : List Cond := flatC (Jvm.Cond.and given_1 narrow_1)
theorem ir_flm {c : Cond} (i : Nat) (h : ir_fl[i]? = some c) : c ∈ ir_fl := List.mem_of_getElem? h
def ir_sblk (own : String) (k : Nat) (b : List Int32) : List Cond := [.exactly (.string own k) "java/lang/String", .eq (.field (.string own k) "java/lang/String" "coder" "B") (.int 0), .arrayOf (.field (.string own k) "java/lang/String" "value" "[B") .byte, .eq (.length (.field (.string own k) "java/lang/String" "value" "[B")) (.int (Int32.ofNat b.length))] ++
  b.zipIdx.map (fun q => Cond.eq (.elem (.field (.string own k) "java/lang/String" "value" "[B") (.int (Int32.ofNat q.2))) (.int q.1))
theorem ir_str_of {args : Array Value} {s : State} {A : Nat → Prop} (hA : ∀ a : Nat, a < s.heap.size → ¬ A a) (hf : ∀ c ∈ ir_fl, c.before args s = true) {K : Nat} {own : String} {k : Nat} {b : List Int32} (h : (ir_fl.drop K).take (4 + b.length) = ir_sblk own k b) (hb : b.length < 2 ^ 31) :
    ∃ a t : Nat, (Term.string own k).eval args s none [] s = some (.ref a) ∧ va_O "java/lang/String" a A s s.heap ∧ va_OF "java/lang/String" "coder" "B" (.int 0) a A s s.heap ∧ va_OF "java/lang/String" "value" "[B" (.ref t) a A s s.heap ∧ va_T .byte t b.length (fun j => .int (b.getD j 0)) A s s.heap := by
  have hm : ∀ c ∈ ir_sblk own k b, c.before args s = true := fun c hc => hf c (List.mem_of_mem_drop (List.mem_of_mem_take (by rw [h]; exact hc)))
  obtain ⟨a, c, cA, kA, q1, q2, q3, q4, q5, q6, -⟩ := Cond.exactly_spec (args := args) (first := s) (o := none) (s := s) (idx := []) (t := .string own k) (cls := "java/lang/String") (hm _ (by simp [ir_sblk]))
  obtain ⟨t, ht, hT⟩ := va_Tof (f := fun j => .int (b.getD j 0)) (A := A) (tm := .field (.string own k) "java/lang/String" "value" "[B") (ty := .byte) hb (hm _ (by simp [ir_sblk])) (va_eqt (hm _ (by simp [ir_sblk]))) (fun j hj => va_eqt (hm _ (List.mem_append_right _ (List.mem_map.mpr ⟨(b.getD j 0, j), List.mk_mem_zipIdx_iff_getElem?.mpr (by simp [List.getD, hj]), rfl⟩)))) hA
  exact ⟨a, t, q1, ⟨cA, q3, q5, by rw [q6]; exact q2, hA a (Array.getElem?_eq_some_iff.mp q3).1⟩, vk_OFof q1 (va_eqt (hm _ (by simp [ir_sblk]))) hA, vk_OFof q1 ht hA, hT⟩
def ir_byts : List (List Int32) := [[103, 111, 111, 100, 115, 32, 112, 101, 114, 115, 111, 110, 32, 97, 115, 107, 115, 32, 97, 112, 97, 114, 116, 32, 108, 105, 107, 101, 115, 32, 98, 101, 104, 105, 110, 100, 32, 109, 105, 100, 100, 108, 101, 32, 114, 105, 110, 103, 32, 110, 105, 103, 104, 116, 32, 114, 117, 105, 110, 32, 108, 97, 119, 32, 110, 111, 116, 32, 97, 110, 100, 32, 111, 114, 32, 103, 111, 111, 100, 32, 119, 111, 114, 116, 104, 32, 97, 103, 101, 32, 103, 111, 108, 100, 32, 112, 108, 97, 99, 101, 32, 111, 116, 104, 101, 114, 115, 32, 116, 111, 116, 97, 108, 32, 100, 97, 121, 32], [110, 111, 116, 32, 115, 111, 32, 109, 97, 110, 121, 32, 98, 121, 116, 101, 115, 32, 97, 114, 101, 32, 111, 110, 32, 116, 104, 101, 32, 116, 97, 112, 101], [59, 43, 45, 42, 40, 41, 91, 93, 61, 60, 62], [110, 111, 32, 115, 117, 99, 104, 32, 112, 101, 114, 115, 111, 110], [110, 111, 116, 104, 105, 110, 103, 32, 115, 117, 99, 104, 32, 105, 115, 32, 107, 110, 111, 119, 110, 32, 111, 102, 32, 97, 32, 112, 101, 114, 115, 111, 110], [110, 111, 32, 115, 117, 99, 104, 32, 103, 111, 111, 100], [98, 111, 116, 104, 32, 97, 114, 101, 32, 111, 110, 101, 32, 112, 101, 114, 115, 111, 110], [110, 111, 98, 111, 100, 121, 32, 115, 116, 97, 110, 100, 115, 32, 116, 104, 101, 114, 101], [105, 116, 32, 105, 115, 110, 39, 116, 32, 105, 110, 32, 116, 104, 101, 32, 113, 117, 101, 117, 101], [49, 32, 116, 111, 32, 54, 48, 32, 100, 97, 121, 115], [105, 116, 32, 105, 115, 32, 105, 110, 32, 116, 104, 101, 32, 113, 117, 101, 117, 101], [116, 104, 101, 114, 101, 32, 105, 115, 32, 110, 111, 32, 115, 117, 99, 104, 32, 112, 108, 97, 99, 101], [110, 111, 98, 111, 100, 121, 32, 115, 116, 97, 110, 100, 115, 32, 116, 104, 101, 114, 101, 44, 32, 111, 114, 32, 98, 101, 104, 105, 110, 100], [110, 111, 32, 115, 117, 99, 104, 32, 116, 114, 97, 121], [116, 104, 101, 32, 116, 114, 97, 121, 32, 105, 115, 32, 109, 105, 115, 115, 105, 110, 103], [110, 111, 116, 32, 115, 111, 32, 109, 97, 110, 121, 32, 100, 101, 101, 100, 115, 32, 99, 97, 110, 32, 98, 101, 32, 117, 110, 100, 111, 110, 101], [110, 111, 116, 104, 105, 110, 103, 32, 115, 117, 99, 104, 32, 105, 115, 32, 106, 117, 100, 103, 101, 100], [49, 32, 116, 111, 32, 51, 48, 32, 116, 105, 109, 101, 115], [116, 104, 101, 114, 101, 32, 97, 114, 101, 32, 110, 111, 32, 112, 101, 111, 112, 108, 101], [110, 111, 116, 104, 105, 110, 103, 32, 115, 117, 99, 104, 32, 105, 115, 32, 107, 110, 111, 119, 110, 32, 111, 102, 32, 116, 104, 101, 32, 98, 101, 115, 116, 32, 111, 114, 100, 101, 114], [116, 104, 101, 114, 101, 32, 105, 115, 32, 110, 111, 32, 111, 114, 100, 101, 114, 32, 116, 111, 32, 115, 116, 97, 110, 100, 32, 105, 110], [110, 111, 116, 104, 105, 110, 103, 32, 115, 117, 99, 104, 32, 105, 115, 32, 107, 110, 111, 119, 110, 32, 111, 102, 32, 115, 101, 116, 116, 108, 105, 110, 103], [110, 111, 32, 115, 117, 99, 104, 32, 115, 101, 116], [110, 111, 32, 115, 117, 99, 104, 32, 112, 108, 111, 116], [110, 111, 116, 104, 105, 110, 103, 32, 115, 117, 99, 104, 32, 105, 115, 32, 107, 110, 111, 119, 110, 32, 111, 102, 32, 97, 32, 112, 114, 111, 109, 105, 115, 101], [110, 111, 116, 104, 105, 110, 103, 32, 115, 117, 99, 104, 32, 105, 115, 32, 107, 110, 111, 119, 110, 32, 111, 102, 32, 97, 32, 103, 117, 97, 114, 100], [109, 111, 114, 101, 32, 116, 104, 97, 110, 32, 54, 32, 97, 114, 101, 32, 105, 110, 32, 116, 104, 101, 32, 113, 117, 101, 117, 101], [110, 111, 32, 115, 117, 99, 104, 32, 119, 97, 121], [116, 104, 97, 116, 32, 99, 97, 110, 39, 116, 32, 104, 97, 118, 101, 32, 99, 111, 109, 101], [110, 111, 32, 115, 117, 99, 104, 32, 115, 111, 114, 116, 44, 32, 111, 114, 32, 110, 111, 116, 32, 115, 111, 32, 109, 97, 110, 121], [105, 116, 32, 104, 97, 115, 32, 110, 111, 32, 115, 117, 99, 104, 32, 112, 108, 97, 99, 101], [110, 111, 32, 115, 117, 99, 104, 32, 105, 109, 97, 103, 101], [110, 111, 32, 115, 117, 99, 104, 32, 105, 109, 97, 103, 101, 32, 119, 97, 115, 32, 109, 97, 100, 101], [103, 111, 111, 100, 115], [112, 101, 114, 115, 111, 110], [97, 103, 101], [103, 111, 108, 100], [97, 115, 107, 115], [119, 111, 114, 116, 104], [97, 112, 97, 114, 116], [108, 105, 107, 101, 115], [98, 101, 104, 105, 110, 100], [109, 105, 100, 100, 108, 101], [114, 105, 110, 103], [110, 105, 103, 104, 116], [114, 117, 105, 110], [108, 97, 119], [110, 111, 116], [103, 111, 111, 100], [112, 108, 97, 99, 101], [111, 116, 104, 101, 114, 115], [116, 111, 116, 97, 108], [100, 97, 121], [97, 110, 100], [111, 114]]
def ir_sKs : List Nat := [138, 260, 297, 312, 330, 367, 383, 406, 429, 454, 470, 492, 518, 552, 568, 591, 626, 652, 669, 692, 735, 768, 805, 820, 836, 874, 910, 942, 957, 981, 1013, 1037, 1054, 1080, 1089, 1099, 1106, 1114, 1122, 1131, 1140, 1149, 1159, 1169, 1177, 1186, 1194, 1201, 1208, 1216, 1225, 1235, 1244, 1251, 1258]
def ir_byt (i : Nat) : List Int32 := match ir_nth ir_byts i with
  | some b => b
  | none => []
def ir_sK (i : Nat) : Nat := match ir_nth ir_sKs i with
  | some b => b
  | none => 0
theorem ir_sb_0 : (ir_fl.drop (ir_sK 0)).take (4 + (ir_byt 0).length) = ir_sblk (ir_on (ir_str 0).1) (ir_str 0).2.1 (ir_byt 0) := by decide +kernel
theorem ir_sb_1 : (ir_fl.drop (ir_sK 1)).take (4 + (ir_byt 1).length) = ir_sblk (ir_on (ir_str 1).1) (ir_str 1).2.1 (ir_byt 1) := by decide +kernel
theorem ir_sb_2 : (ir_fl.drop (ir_sK 2)).take (4 + (ir_byt 2).length) = ir_sblk (ir_on (ir_str 2).1) (ir_str 2).2.1 (ir_byt 2) := by decide +kernel
theorem ir_sb_3 : (ir_fl.drop (ir_sK 3)).take (4 + (ir_byt 3).length) = ir_sblk (ir_on (ir_str 3).1) (ir_str 3).2.1 (ir_byt 3) := by decide +kernel
theorem ir_sb_4 : (ir_fl.drop (ir_sK 4)).take (4 + (ir_byt 4).length) = ir_sblk (ir_on (ir_str 4).1) (ir_str 4).2.1 (ir_byt 4) := by decide +kernel
theorem ir_sb_5 : (ir_fl.drop (ir_sK 5)).take (4 + (ir_byt 5).length) = ir_sblk (ir_on (ir_str 5).1) (ir_str 5).2.1 (ir_byt 5) := by decide +kernel
theorem ir_sb_6 : (ir_fl.drop (ir_sK 6)).take (4 + (ir_byt 6).length) = ir_sblk (ir_on (ir_str 6).1) (ir_str 6).2.1 (ir_byt 6) := by decide +kernel
theorem ir_sb_7 : (ir_fl.drop (ir_sK 7)).take (4 + (ir_byt 7).length) = ir_sblk (ir_on (ir_str 7).1) (ir_str 7).2.1 (ir_byt 7) := by decide +kernel
theorem ir_sb_8 : (ir_fl.drop (ir_sK 8)).take (4 + (ir_byt 8).length) = ir_sblk (ir_on (ir_str 8).1) (ir_str 8).2.1 (ir_byt 8) := by decide +kernel
theorem ir_sb_9 : (ir_fl.drop (ir_sK 9)).take (4 + (ir_byt 9).length) = ir_sblk (ir_on (ir_str 9).1) (ir_str 9).2.1 (ir_byt 9) := by decide +kernel
theorem ir_sb_10 : (ir_fl.drop (ir_sK 10)).take (4 + (ir_byt 10).length) = ir_sblk (ir_on (ir_str 10).1) (ir_str 10).2.1 (ir_byt 10) := by decide +kernel
theorem ir_sb_11 : (ir_fl.drop (ir_sK 11)).take (4 + (ir_byt 11).length) = ir_sblk (ir_on (ir_str 11).1) (ir_str 11).2.1 (ir_byt 11) := by decide +kernel
theorem ir_sb_12 : (ir_fl.drop (ir_sK 12)).take (4 + (ir_byt 12).length) = ir_sblk (ir_on (ir_str 12).1) (ir_str 12).2.1 (ir_byt 12) := by decide +kernel
theorem ir_sb_13 : (ir_fl.drop (ir_sK 13)).take (4 + (ir_byt 13).length) = ir_sblk (ir_on (ir_str 13).1) (ir_str 13).2.1 (ir_byt 13) := by decide +kernel
theorem ir_sb_14 : (ir_fl.drop (ir_sK 14)).take (4 + (ir_byt 14).length) = ir_sblk (ir_on (ir_str 14).1) (ir_str 14).2.1 (ir_byt 14) := by decide +kernel
theorem ir_sb_15 : (ir_fl.drop (ir_sK 15)).take (4 + (ir_byt 15).length) = ir_sblk (ir_on (ir_str 15).1) (ir_str 15).2.1 (ir_byt 15) := by decide +kernel
theorem ir_sb_16 : (ir_fl.drop (ir_sK 16)).take (4 + (ir_byt 16).length) = ir_sblk (ir_on (ir_str 16).1) (ir_str 16).2.1 (ir_byt 16) := by decide +kernel
theorem ir_sb_17 : (ir_fl.drop (ir_sK 17)).take (4 + (ir_byt 17).length) = ir_sblk (ir_on (ir_str 17).1) (ir_str 17).2.1 (ir_byt 17) := by decide +kernel
theorem ir_sb_18 : (ir_fl.drop (ir_sK 18)).take (4 + (ir_byt 18).length) = ir_sblk (ir_on (ir_str 18).1) (ir_str 18).2.1 (ir_byt 18) := by decide +kernel
theorem ir_sb_19 : (ir_fl.drop (ir_sK 19)).take (4 + (ir_byt 19).length) = ir_sblk (ir_on (ir_str 19).1) (ir_str 19).2.1 (ir_byt 19) := by decide +kernel
theorem ir_sb_20 : (ir_fl.drop (ir_sK 20)).take (4 + (ir_byt 20).length) = ir_sblk (ir_on (ir_str 20).1) (ir_str 20).2.1 (ir_byt 20) := by decide +kernel
theorem ir_sb_21 : (ir_fl.drop (ir_sK 21)).take (4 + (ir_byt 21).length) = ir_sblk (ir_on (ir_str 21).1) (ir_str 21).2.1 (ir_byt 21) := by decide +kernel
theorem ir_sb_22 : (ir_fl.drop (ir_sK 22)).take (4 + (ir_byt 22).length) = ir_sblk (ir_on (ir_str 22).1) (ir_str 22).2.1 (ir_byt 22) := by decide +kernel
theorem ir_sb_23 : (ir_fl.drop (ir_sK 23)).take (4 + (ir_byt 23).length) = ir_sblk (ir_on (ir_str 23).1) (ir_str 23).2.1 (ir_byt 23) := by decide +kernel
theorem ir_sb_24 : (ir_fl.drop (ir_sK 24)).take (4 + (ir_byt 24).length) = ir_sblk (ir_on (ir_str 24).1) (ir_str 24).2.1 (ir_byt 24) := by decide +kernel
theorem ir_sb_25 : (ir_fl.drop (ir_sK 25)).take (4 + (ir_byt 25).length) = ir_sblk (ir_on (ir_str 25).1) (ir_str 25).2.1 (ir_byt 25) := by decide +kernel
theorem ir_sb_26 : (ir_fl.drop (ir_sK 26)).take (4 + (ir_byt 26).length) = ir_sblk (ir_on (ir_str 26).1) (ir_str 26).2.1 (ir_byt 26) := by decide +kernel
theorem ir_sb_27 : (ir_fl.drop (ir_sK 27)).take (4 + (ir_byt 27).length) = ir_sblk (ir_on (ir_str 27).1) (ir_str 27).2.1 (ir_byt 27) := by decide +kernel
theorem ir_sb_28 : (ir_fl.drop (ir_sK 28)).take (4 + (ir_byt 28).length) = ir_sblk (ir_on (ir_str 28).1) (ir_str 28).2.1 (ir_byt 28) := by decide +kernel
theorem ir_sb_29 : (ir_fl.drop (ir_sK 29)).take (4 + (ir_byt 29).length) = ir_sblk (ir_on (ir_str 29).1) (ir_str 29).2.1 (ir_byt 29) := by decide +kernel
theorem ir_sb_30 : (ir_fl.drop (ir_sK 30)).take (4 + (ir_byt 30).length) = ir_sblk (ir_on (ir_str 30).1) (ir_str 30).2.1 (ir_byt 30) := by decide +kernel
theorem ir_sb_31 : (ir_fl.drop (ir_sK 31)).take (4 + (ir_byt 31).length) = ir_sblk (ir_on (ir_str 31).1) (ir_str 31).2.1 (ir_byt 31) := by decide +kernel
theorem ir_sb_32 : (ir_fl.drop (ir_sK 32)).take (4 + (ir_byt 32).length) = ir_sblk (ir_on (ir_str 32).1) (ir_str 32).2.1 (ir_byt 32) := by decide +kernel
theorem ir_sb_33 : (ir_fl.drop (ir_sK 33)).take (4 + (ir_byt 33).length) = ir_sblk (ir_on (ir_str 33).1) (ir_str 33).2.1 (ir_byt 33) := by decide +kernel
theorem ir_sb_34 : (ir_fl.drop (ir_sK 34)).take (4 + (ir_byt 34).length) = ir_sblk (ir_on (ir_str 34).1) (ir_str 34).2.1 (ir_byt 34) := by decide +kernel
theorem ir_sb_35 : (ir_fl.drop (ir_sK 35)).take (4 + (ir_byt 35).length) = ir_sblk (ir_on (ir_str 35).1) (ir_str 35).2.1 (ir_byt 35) := by decide +kernel
theorem ir_sb_36 : (ir_fl.drop (ir_sK 36)).take (4 + (ir_byt 36).length) = ir_sblk (ir_on (ir_str 36).1) (ir_str 36).2.1 (ir_byt 36) := by decide +kernel
theorem ir_sb_37 : (ir_fl.drop (ir_sK 37)).take (4 + (ir_byt 37).length) = ir_sblk (ir_on (ir_str 37).1) (ir_str 37).2.1 (ir_byt 37) := by decide +kernel
theorem ir_sb_38 : (ir_fl.drop (ir_sK 38)).take (4 + (ir_byt 38).length) = ir_sblk (ir_on (ir_str 38).1) (ir_str 38).2.1 (ir_byt 38) := by decide +kernel
theorem ir_sb_39 : (ir_fl.drop (ir_sK 39)).take (4 + (ir_byt 39).length) = ir_sblk (ir_on (ir_str 39).1) (ir_str 39).2.1 (ir_byt 39) := by decide +kernel
theorem ir_sb_40 : (ir_fl.drop (ir_sK 40)).take (4 + (ir_byt 40).length) = ir_sblk (ir_on (ir_str 40).1) (ir_str 40).2.1 (ir_byt 40) := by decide +kernel
theorem ir_sb_41 : (ir_fl.drop (ir_sK 41)).take (4 + (ir_byt 41).length) = ir_sblk (ir_on (ir_str 41).1) (ir_str 41).2.1 (ir_byt 41) := by decide +kernel
theorem ir_sb_42 : (ir_fl.drop (ir_sK 42)).take (4 + (ir_byt 42).length) = ir_sblk (ir_on (ir_str 42).1) (ir_str 42).2.1 (ir_byt 42) := by decide +kernel
theorem ir_sb_43 : (ir_fl.drop (ir_sK 43)).take (4 + (ir_byt 43).length) = ir_sblk (ir_on (ir_str 43).1) (ir_str 43).2.1 (ir_byt 43) := by decide +kernel
theorem ir_sb_44 : (ir_fl.drop (ir_sK 44)).take (4 + (ir_byt 44).length) = ir_sblk (ir_on (ir_str 44).1) (ir_str 44).2.1 (ir_byt 44) := by decide +kernel
theorem ir_sb_45 : (ir_fl.drop (ir_sK 45)).take (4 + (ir_byt 45).length) = ir_sblk (ir_on (ir_str 45).1) (ir_str 45).2.1 (ir_byt 45) := by decide +kernel
theorem ir_sb_46 : (ir_fl.drop (ir_sK 46)).take (4 + (ir_byt 46).length) = ir_sblk (ir_on (ir_str 46).1) (ir_str 46).2.1 (ir_byt 46) := by decide +kernel
theorem ir_sb_47 : (ir_fl.drop (ir_sK 47)).take (4 + (ir_byt 47).length) = ir_sblk (ir_on (ir_str 47).1) (ir_str 47).2.1 (ir_byt 47) := by decide +kernel
theorem ir_sb_48 : (ir_fl.drop (ir_sK 48)).take (4 + (ir_byt 48).length) = ir_sblk (ir_on (ir_str 48).1) (ir_str 48).2.1 (ir_byt 48) := by decide +kernel
theorem ir_sb_49 : (ir_fl.drop (ir_sK 49)).take (4 + (ir_byt 49).length) = ir_sblk (ir_on (ir_str 49).1) (ir_str 49).2.1 (ir_byt 49) := by decide +kernel
theorem ir_sb_50 : (ir_fl.drop (ir_sK 50)).take (4 + (ir_byt 50).length) = ir_sblk (ir_on (ir_str 50).1) (ir_str 50).2.1 (ir_byt 50) := by decide +kernel
theorem ir_sb_51 : (ir_fl.drop (ir_sK 51)).take (4 + (ir_byt 51).length) = ir_sblk (ir_on (ir_str 51).1) (ir_str 51).2.1 (ir_byt 51) := by decide +kernel
theorem ir_sb_52 : (ir_fl.drop (ir_sK 52)).take (4 + (ir_byt 52).length) = ir_sblk (ir_on (ir_str 52).1) (ir_str 52).2.1 (ir_byt 52) := by decide +kernel
theorem ir_sb_53 : (ir_fl.drop (ir_sK 53)).take (4 + (ir_byt 53).length) = ir_sblk (ir_on (ir_str 53).1) (ir_str 53).2.1 (ir_byt 53) := by decide +kernel
theorem ir_sb_54 : (ir_fl.drop (ir_sK 54)).take (4 + (ir_byt 54).length) = ir_sblk (ir_on (ir_str 54).1) (ir_str 54).2.1 (ir_byt 54) := by decide +kernel
theorem ir_sb : ∀ i, i < 55 → (ir_fl.drop (ir_sK i)).take (4 + (ir_byt i).length) = ir_sblk (ir_on (ir_str i).1) (ir_str i).2.1 (ir_byt i)
  | 0, _ => ir_sb_0
  | 1, _ => ir_sb_1
  | 2, _ => ir_sb_2
  | 3, _ => ir_sb_3
  | 4, _ => ir_sb_4
  | 5, _ => ir_sb_5
  | 6, _ => ir_sb_6
  | 7, _ => ir_sb_7
  | 8, _ => ir_sb_8
  | 9, _ => ir_sb_9
  | 10, _ => ir_sb_10
  | 11, _ => ir_sb_11
  | 12, _ => ir_sb_12
  | 13, _ => ir_sb_13
  | 14, _ => ir_sb_14
  | 15, _ => ir_sb_15
  | 16, _ => ir_sb_16
  | 17, _ => ir_sb_17
  | 18, _ => ir_sb_18
  | 19, _ => ir_sb_19
  | 20, _ => ir_sb_20
  | 21, _ => ir_sb_21
  | 22, _ => ir_sb_22
  | 23, _ => ir_sb_23
  | 24, _ => ir_sb_24
  | 25, _ => ir_sb_25
  | 26, _ => ir_sb_26
  | 27, _ => ir_sb_27
  | 28, _ => ir_sb_28
  | 29, _ => ir_sb_29
  | 30, _ => ir_sb_30
  | 31, _ => ir_sb_31
  | 32, _ => ir_sb_32
  | 33, _ => ir_sb_33
  | 34, _ => ir_sb_34
  | 35, _ => ir_sb_35
  | 36, _ => ir_sb_36
  | 37, _ => ir_sb_37
  | 38, _ => ir_sb_38
  | 39, _ => ir_sb_39
  | 40, _ => ir_sb_40
  | 41, _ => ir_sb_41
  | 42, _ => ir_sb_42
  | 43, _ => ir_sb_43
  | 44, _ => ir_sb_44
  | 45, _ => ir_sb_45
  | 46, _ => ir_sb_46
  | 47, _ => ir_sb_47
  | 48, _ => ir_sb_48
  | 49, _ => ir_sb_49
  | 50, _ => ir_sb_50
  | 51, _ => ir_sb_51
  | 52, _ => ir_sb_52
  | 53, _ => ir_sb_53
  | 54, _ => ir_sb_54
  | i + 55, h => absurd h (by omega)
theorem ir_sr : ∀ i, i < 55 → Cond.stringRef (ir_on (ir_str i).1) (ir_str i).2.1 (ir_str i).2.2 ∈ tables_1
  | 0, _ => (ir_k1 235 rfl)
  | 1, _ => (ir_k4 86 rfl)
  | 2, _ => (ir_k4 146 rfl)
  | 3, _ => (ir_k5 93 rfl)
  | 4, _ => (ir_k5 116 rfl)
  | 5, _ => (ir_k5 128 rfl)
  | 6, _ => (ir_k5 137 rfl)
  | 7, _ => (ir_k5 149 rfl)
  | 8, _ => (ir_k5 171 rfl)
  | 9, _ => (ir_k5 204 rfl)
  | 10, _ => (ir_k5 220 rfl)
  | 11, _ => (ir_k5 233 rfl)
  | 12, _ => (ir_k6 1 rfl)
  | 13, _ => (ir_k6 16 rfl)
  | 14, _ => (ir_k6 17 rfl)
  | 15, _ => (ir_k6 44 rfl)
  | 16, _ => (ir_k6 56 rfl)
  | 17, _ => (ir_k6 83 rfl)
  | 18, _ => (ir_k6 84 rfl)
  | 19, _ => (ir_k6 101 rfl)
  | 20, _ => (ir_k6 113 rfl)
  | 21, _ => (ir_k6 144 rfl)
  | 22, _ => (ir_k6 178 rfl)
  | 23, _ => (ir_k6 179 rfl)
  | 24, _ => (ir_k6 208 rfl)
  | 25, _ => (ir_k6 232 rfl)
  | 26, _ => (ir_k7 22 rfl)
  | 27, _ => (ir_k7 69 rfl)
  | 28, _ => (ir_k7 82 rfl)
  | 29, _ => (ir_k7 144 rfl)
  | 30, _ => (ir_k7 167 rfl)
  | 31, _ => (ir_k7 200 rfl)
  | 32, _ => (ir_k7 212 rfl)
  | 33, _ => (ir_k8 166 rfl)
  | 34, _ => (ir_k8 220 rfl)
  | 35, _ => (ir_k8 225 rfl)
  | 36, _ => (ir_k8 226 rfl)
  | 37, _ => (ir_k8 227 rfl)
  | 38, _ => (ir_k8 228 rfl)
  | 39, _ => (ir_k8 237 rfl)
  | 40, _ => (ir_k9 6 rfl)
  | 41, _ => (ir_k9 11 rfl)
  | 42, _ => (ir_k9 12 rfl)
  | 43, _ => (ir_k9 13 rfl)
  | 44, _ => (ir_k9 14 rfl)
  | 45, _ => (ir_k9 15 rfl)
  | 46, _ => (ir_k9 16 rfl)
  | 47, _ => (ir_k9 29 rfl)
  | 48, _ => (ir_k9 54 rfl)
  | 49, _ => (ir_k9 55 rfl)
  | 50, _ => (ir_k9 56 rfl)
  | 51, _ => (ir_k9 57 rfl)
  | 52, _ => (ir_k9 58 rfl)
  | 53, _ => (ir_k9 59 rfl)
  | 54, _ => (ir_k9 60 rfl)
  | i + 55, h => absurd h (by omega)
theorem ir_byt_le : ∀ i, i < 55 → (ir_byt i).length < 2 ^ 31 := by decide +kernel
theorem ir_inst : ∀ (c : Nat) (q : vw_C), vwCl[c]? = some q → Cond.instantiable q.1 q.2.2 ∈ ir_Tb
  | 0, _, rfl => (by obtain ⟨q, q1, -, -, q4, -⟩ := ir_n_9; cases (Option.some.inj q1); exact q4)
  | 1, _, rfl => (by obtain ⟨q, q1, -, -, q4, -⟩ := ir_n_4; cases (Option.some.inj q1); exact q4)
  | 2, _, rfl => (by obtain ⟨q, q1, -, -, q4, -⟩ := ir_n_10; cases (Option.some.inj q1); exact q4)
  | 3, _, rfl => (by obtain ⟨q, q1, -, -, q4, -⟩ := ir_n_11; cases (Option.some.inj q1); exact q4)
  | 4, _, rfl => (by obtain ⟨q, q1, -, -, q4, -⟩ := ir_n_8; cases (Option.some.inj q1); exact q4)
  | 5, _, rfl => (by obtain ⟨q, q1, -, -, q4, -⟩ := ir_n_5; cases (Option.some.inj q1); exact q4)
  | 6, _, rfl => (by obtain ⟨q, q1, -, -, q4, -⟩ := ir_n_13; cases (Option.some.inj q1); exact q4)
  | 7, _, rfl => (by obtain ⟨q, q1, -, -, q4, -⟩ := ir_n_12; cases (Option.some.inj q1); exact q4)
  | 8, _, rfl => (by obtain ⟨q, q1, -, -, q4, -⟩ := ir_n_1; cases (Option.some.inj q1); exact q4)
  | 9, _, rfl => (by obtain ⟨q, q1, -, -, q4, -⟩ := ir_n_0; cases (Option.some.inj q1); exact q4)
  | 10, _, rfl => (by obtain ⟨q, q1, -, -, q4, -⟩ := ir_n_7; cases (Option.some.inj q1); exact q4)
  | 11, _, rfl => (by obtain ⟨q, q1, -, -, q4, -⟩ := ir_n_14; cases (Option.some.inj q1); exact q4)
  | 12, _, rfl => (by obtain ⟨q, q1, -, -, q4, -⟩ := ir_n_15; cases (Option.some.inj q1); exact q4)
  | c + 13, _, h => nomatch h
theorem ir_w_cs : Cond.laysStatic "java/lang/String" "COMPACT_STRINGS" "Z" ∈ tables_1 ∧ Cond.initialized "java/lang/String" ∈ tables_1 ∧ Cond.eq (.static "java/lang/String" "COMPACT_STRINGS" "Z") (.int 1) ∈ ir_fl := ⟨(ir_k2 5 rfl), (ir_k1 7 rfl), (ir_flm 4 (by decide +kernel))⟩
theorem ir_w_ro : Cond.laysStatic "WellQueue$Shares" "ROWS" "[I" ∈ tables_1 ∧ Cond.initialized "WellQueue$Shares" ∈ tables_1 ∧ Cond.arrayOf (.static "WellQueue$Shares" "ROWS" "[I") .int ∈ ir_fl ∧ Cond.eq (.length (.static "WellQueue$Shares" "ROWS" "[I")) (.int 6) ∈ ir_fl := ⟨(ir_k7 54 rfl), (ir_k1 14 rfl), (ir_flm 12 (by decide +kernel)), (ir_flm 13 (by decide +kernel))⟩
def ir_rows : List Int32 := [1, 1, 2, 6, 24, 120]
theorem ir_w_re : ∀ j : Nat, j < 6 → Cond.eq (.elem (.static "WellQueue$Shares" "ROWS" "[I") (.int (Int32.ofNat j))) (.int (ir_rows.getD j 0)) ∈ ir_fl
  | 0, _ => (ir_flm 14 (by decide +kernel))
  | 1, _ => (ir_flm 15 (by decide +kernel))
  | 2, _ => (ir_flm 16 (by decide +kernel))
  | 3, _ => (ir_flm 17 (by decide +kernel))
  | 4, _ => (ir_flm 18 (by decide +kernel))
  | 5, _ => (ir_flm 19 (by decide +kernel))
  | j + 6, h => absurd h (by omega)
theorem ir_w_fo : Cond.laysStatic "jdk/internal/util/Preconditions" "SIOOBE_FORMATTER" "Ljava/util/function/BiFunction;" ∈ tables_1 ∧ Cond.initialized "jdk/internal/util/Preconditions" ∈ tables_1 ∧ Cond.isRef (.static "jdk/internal/util/Preconditions" "SIOOBE_FORMATTER" "Ljava/util/function/BiFunction;") ∈ ir_fl := ⟨(ir_k2 28 rfl), (ir_k1 10 rfl), (ir_flm 5 (by decide +kernel))⟩
theorem ir_w_us : Cond.laysStatic "java/lang/Throwable" "UNASSIGNED_STACK" "[Ljava/lang/StackTraceElement;" ∈ tables_1 ∧ Cond.initialized "java/lang/Throwable" ∈ tables_1 ∧ Cond.isRef (.static "java/lang/Throwable" "UNASSIGNED_STACK" "[Ljava/lang/StackTraceElement;") ∈ ir_fl := ⟨(ir_k4 71 rfl), (ir_k1 18 rfl), (ir_flm 9 (by decide +kernel))⟩
theorem ir_w_ss : Cond.laysStatic "java/lang/Throwable" "SUPPRESSED_SENTINEL" "Ljava/util/List;" ∈ tables_1 ∧ Cond.initialized "java/lang/Throwable" ∈ tables_1 ∧ Cond.isRef (.static "java/lang/Throwable" "SUPPRESSED_SENTINEL" "Ljava/util/List;") ∈ ir_fl := ⟨(ir_k4 73 rfl), (ir_k1 18 rfl), (ir_flm 10 (by decide +kernel))⟩
theorem ir_nc_12 : Cond.not (.castable (ir_exn 1) (ir_exn 2)) ∈ ir_fl := (ir_flm 66 (by decide +kernel))
theorem ir_nc_13 : Cond.not (.castable (ir_exn 1) (ir_exn 3)) ∈ ir_fl := (ir_flm 33 (by decide +kernel))
theorem ir_nc_14 : Cond.not (.castable (ir_exn 1) (ir_exn 4)) ∈ ir_fl := (ir_flm 82 (by decide +kernel))
theorem ir_nc_21 : Cond.not (.castable (ir_exn 2) (ir_exn 1)) ∈ ir_fl := (ir_flm 50 (by decide +kernel))
theorem ir_nc_23 : Cond.not (.castable (ir_exn 2) (ir_exn 3)) ∈ ir_fl := (ir_flm 34 (by decide +kernel))
theorem ir_nc_24 : Cond.not (.castable (ir_exn 2) (ir_exn 4)) ∈ ir_fl := (ir_flm 83 (by decide +kernel))
theorem ir_nc_31 : Cond.not (.castable (ir_exn 3) (ir_exn 1)) ∈ ir_fl := (ir_flm 49 (by decide +kernel))
theorem ir_nc_32 : Cond.not (.castable (ir_exn 3) (ir_exn 2)) ∈ ir_fl := (ir_flm 65 (by decide +kernel))
theorem ir_nc_34 : Cond.not (.castable (ir_exn 3) (ir_exn 4)) ∈ ir_fl := (ir_flm 81 (by decide +kernel))
theorem ir_nc_41 : Cond.not (.castable (ir_exn 4) (ir_exn 1)) ∈ ir_fl := (ir_flm 51 (by decide +kernel))
theorem ir_nc_42 : Cond.not (.castable (ir_exn 4) (ir_exn 2)) ∈ ir_fl := (ir_flm 67 (by decide +kernel))
theorem ir_nc_43 : Cond.not (.castable (ir_exn 4) (ir_exn 3)) ∈ ir_fl := (ir_flm 35 (by decide +kernel))
theorem ir_ncp : ∀ a b, a ≠ b → 1 ≤ a → a ≤ 4 → 1 ≤ b → b ≤ 4 → Cond.not (.castable (ir_exn a) (ir_exn b)) ∈ ir_fl := by
  intro a b h h1 h2 h3 h4
  have ha : a = 1 ∨ a = 2 ∨ a = 3 ∨ a = 4 := by omega
  have hb : b = 1 ∨ b = 2 ∨ b = 3 ∨ b = 4 := by omega
  rcases ha with rfl | rfl | rfl | rfl <;> rcases hb with rfl | rfl | rfl | rfl <;> first | exact absurd rfl h | exact ir_nc_12 | exact ir_nc_13 | exact ir_nc_14 | exact ir_nc_21 | exact ir_nc_23 | exact ir_nc_24 | exact ir_nc_31 | exact ir_nc_32 | exact ir_nc_34 | exact ir_nc_41 | exact ir_nc_42 | exact ir_nc_43
theorem ir_ao_State : Cond.arrayOver (.object "WellQueue$State") ∈ tables_1 := (ir_k1 200 rfl)
theorem ir_ao_Scene : Cond.arrayOver (.object "WellQueue$Scene") ∈ tables_1 := (ir_k1 222 rfl)
theorem ir_ao_Tray : Cond.arrayOver (.object "WellQueue$Tray") ∈ tables_1 := (ir_k1 224 rfl)
theorem ir_arrP {args : Array Value} {s : State} {ty : FieldType} (h : (Cond.arrayClass ty).before args s = true) : ∃ cA : ClassId, ArrOfT s cA ty ∧ s.vm.findClass ("[" ++ ty.toString) = some cA := by
  obtain ⟨c, k, comp, h1, h2, h3⟩ := Cond.arrayClass_spec h
  exact ⟨c, fun n z => ⟨fun k9 h9 => (by cases h9), k, h2, comp, h3⟩, h1⟩
theorem ir_arrO {args : Array Value} {s : State} {C : String} (h : (Cond.arrayOver (.object C)).before args s = true) : ∃ cA : ClassId, ArrOfT s cA (.object C) ∧ va_RA s cA (.object C) := by
  obtain ⟨comp, c, k, h1, h2, h3, h4, h5⟩ := Cond.arrayOver_spec h
  exact ⟨c, fun n z => ⟨fun k9 h9 => (by cases h9), k, h3, comp, h4⟩, k, comp, h3, h4, h1, h5⟩
/-- what lay there before, as a memory: the script at 2000000, ROWS at 3000000, the Strings -/
def ir_X (L : Nat) (xs : Nat → Int32) : ir_M :=
  (fun a j => if a = 2000000 then xs j else if a = 3000000 then ir_rows.getD j 0 else if 1100000 ≤ a then (ir_byt (a - 1100000)).getD j 0 else 0,
   fun a _ => if a = 2000000 then Int64.ofNat L else if a = 3000000 then 6 else if 1100000 ≤ a then Int64.ofNat (ir_byt (a - 1100000)).length else 0,
   fun a _ => if 1000000 ≤ a ∧ a < 1100000 then a + 100000 else 0, (1, 0, 0, true))
/-- the memory that the law begins with -/
def ir_M0 (L : Nat) (xs : Nat → Int32) : ir_M :=
  (fun a j => if a < 1000000 then 0 else (ir_X L xs).1 a j, fun a j => if a < 1000000 then 0 else (ir_X L xs).2.1 a j, fun a j => if a < 1000000 then 0 else (ir_X L xs).2.2.1 a j, (1, 0, 0, true))
theorem ir_toI64 {n : Nat} (h : n < 2 ^ 31) : (Int64.ofNat n).toInt.toNat = n := by
  rw [show (Int64.ofNat n).toInt = (n : Int) from lg_ofNat_toInt (by omega)]
  rfl
theorem ir_init {p : Program} {s : State} {m : MethodId} {meth : Method} {c : Code} {b L : Nat} {xs : Nat → Int32} (hL : L ≤ 3072) (C0 : lw_At p s m meth c b L xs) :
    ∃ w : ir_Wd, w.1 + 1 = s.heap.size ∧ w.2.1 2000000 = b ∧ w.2.2.2.2.2 = ir_X L xs ∧ ir_ext w s s.heap := by
  obtain ⟨hx, hb, hr, hml, ho, hts, hX, hbl, hlk, hgv⟩ := C0
  have hsz : s.heap.size - 1 + 1 = s.heap.size := by omega
  have hA : ∀ a : Nat, a < s.heap.size → ¬ (fun q => s.heap.size - 1 + 1 ≤ q) a := fun a ha q => by
    have q' : s.heap.size - 1 + 1 ≤ a := q
    omega
  have hf : ∀ c ∈ ir_fl, c.before #[Value.ref b] s = true := flat_of_before _ hgv
  have hT : ∀ v ∈ ir_Tb, v.before #[Value.ref b] s = true := fun v hv => hts v (List.mem_filter.mp hv).1
  have ht1 : ∀ v ∈ tables_1, v.before #[Value.ref b] s = true := fun v hv => hts v (List.mem_append_right _ hv)
  -- classes
  have hcl : ∀ k : Nat, ∃ D : ClassId × (Nat → Nat), ∀ q : vw_C, vwCl[k]? = some q → u_Kn s q.1 q.2.1 q.2.2 D.1 D.2 := by
    intro k
    cases hq : vwCl[k]? with
    | none => exact ⟨(0, fun _ => 0), fun q h => nomatch h⟩
    | some q =>
      obtain ⟨c1, -⟩ := ir_cl_ok k q hq
      obtain ⟨cC, iS, h⟩ := u_known (ws := ir_Tb) hT c1 (hT _ (ir_inst k q hq))
      exact ⟨(cC, iS), fun q' h' => by cases h'; exact h⟩
  obtain ⟨D, hD⟩ := Classical.axiomOfChoice hcl
  obtain ⟨a0, A0, B0⟩ := ir_arrP (hT _ ir_ac_int)
  obtain ⟨a1, A1, B1⟩ := ir_arrP (hT _ ir_ac_long)
  obtain ⟨a2, A2, B2⟩ := ir_arrP (hT _ ir_ac_byte)
  obtain ⟨a3, A3, B3⟩ := ir_arrP (hT _ ir_ac_boolean)
  obtain ⟨a4, A4, B4⟩ := ir_arrP (hT _ ir_ac_char)
  obtain ⟨a5, A5, B5⟩ := ir_arrO (ht1 _ ir_ao_State)
  obtain ⟨a6, A6, B6⟩ := ir_arrO (ht1 _ ir_ao_Scene)
  obtain ⟨a7, A7, B7⟩ := ir_arrO (ht1 _ ir_ao_Tray)
  -- Strings
  have hst : ∀ i : Nat, ∃ q : Nat × Nat, i < 55 → (Term.string (ir_on (ir_str i).1) (ir_str i).2.1).eval #[Value.ref b] s none [] s = some (.ref q.1) ∧ va_O "java/lang/String" q.1 (fun q => s.heap.size - 1 + 1 ≤ q) s s.heap ∧ va_OF "java/lang/String" "coder" "B" (.int 0) q.1 (fun q => s.heap.size - 1 + 1 ≤ q) s s.heap ∧ va_OF "java/lang/String" "value" "[B" (.ref q.2) q.1 (fun q => s.heap.size - 1 + 1 ≤ q) s s.heap ∧ va_T .byte q.2 (ir_byt i).length (fun j => .int ((ir_byt i).getD j 0)) (fun q => s.heap.size - 1 + 1 ≤ q) s s.heap := by
    intro i
    by_cases hi : i < 55
    · obtain ⟨a, t, h⟩ := ir_str_of hA hf (ir_sb i hi) (ir_byt_le i hi)
      exact ⟨(a, t), fun _ => h⟩
    · exact ⟨(0, 0), fun h => absurd h hi⟩
  obtain ⟨ad, had⟩ := Classical.axiomOfChoice hst
  -- ROWS, the formatter
  obtain ⟨ro, hro, hroT⟩ := va_Tof (f := fun j => .int (ir_rows.getD j 0)) (A := fun q => s.heap.size - 1 + 1 ≤ q) (tm := .static "WellQueue$Shares" "ROWS" "[I") (ty := .int) (N := 6) (by decide) (hf _ ir_w_ro.2.2.1) (va_eqt (hf _ ir_w_ro.2.2.2)) (fun j hj => va_eqt (hf _ (ir_w_re j hj))) hA
  have hroZ := va_Zref (ht1 _ ir_w_ro.1) (ht1 _ ir_w_ro.2.1) hro hA
  obtain ⟨fv, hfc, hfo⟩ : ∃ v : Value, v.category = 1 ∧ va_Z "jdk/internal/util/Preconditions" "SIOOBE_FORMATTER" "Ljava/util/function/BiFunction;" v (fun q => s.heap.size - 1 + 1 ≤ q) s s.heap := by
    rcases va_Zqof (ht1 _ ir_w_fo.1) (ht1 _ ir_w_fo.2.1) (hf _ ir_w_fo.2.2) hA with h | ⟨t, h⟩
    · exact ⟨_, rfl, h⟩
    · exact ⟨_, rfl, h⟩
  refine ⟨(s.heap.size - 1, fun a => if a = 2000000 then b else if a = 3000000 then ro else if a < 1100000 then (ad (a - 1000000)).1 else (ad (a - 1100000)).2, fv, (fun k => (D k).1, fun k => (D k).2), fun k => match k with | 0 => a0 | 1 => a1 | 2 => a2 | 3 => a3 | 4 => a4 | 5 => a5 | 6 => a6 | _ => a7, ir_X L xs), hsz, rfl, rfl, ?_⟩
  refine ⟨⟨fun k q hq => hD k q hq, fun k q hq => ?_⟩, fun i hi => ?_, va_Zof (ht1 _ ir_w_cs.1) (ht1 _ ir_w_cs.2.1) (va_eqt (hf _ ir_w_cs.2.2)) hA, hroZ, hfo, ?_, ?_, vx_Zqof (ht1 _ ir_w_us.1) (ht1 _ ir_w_us.2.1) (hf _ ir_w_us.2.2) hA, vx_Zqof (ht1 _ ir_w_ss.1) (ht1 _ ir_w_ss.2.1) (hf _ ir_w_ss.2.2) hA,
    fun v hv => va_Nw.of (ir_nk_on (List.mem_filter.mp hv).2) (ht1 v (List.mem_filter.mp hv).1), fun x y h1 h2 h3 h4 h5 => va_Nc.of (hf _ (ir_ncp x y h1 h2 h3 h4 h5)), va_AO.of (ht1 _ ir_ao_State), va_AO.of (ht1 _ ir_ao_Scene), va_AO.of (ht1 _ ir_ao_Tray), hfc⟩
  · match k, hq with
    | 0, hq => cases (Option.some.inj hq); exact ⟨A0, B0⟩
    | 1, hq => cases (Option.some.inj hq); exact ⟨A1, B1⟩
    | 2, hq => cases (Option.some.inj hq); exact ⟨A2, B2⟩
    | 3, hq => cases (Option.some.inj hq); exact ⟨A3, B3⟩
    | 4, hq => cases (Option.some.inj hq); exact ⟨A4, B4⟩
    | 5, hq => cases (Option.some.inj hq); exact ⟨A5, B5⟩
    | 6, hq => cases (Option.some.inj hq); exact ⟨A6, B6⟩
    | 7, hq => cases (Option.some.inj hq); exact ⟨A7, B7⟩
    | k + 8, hq => exact nomatch hq
  · obtain ⟨g1, g2, g3, g4, g5⟩ := had i hi
    have e1 : (if 1000000 + i = 2000000 then b else if 1000000 + i = 3000000 then ro else if 1000000 + i < 1100000 then (ad (1000000 + i - 1000000)).1 else (ad (1000000 + i - 1100000)).2) = (ad i).1 := by
      rw [if_neg (by omega), if_neg (by omega), if_pos (by omega), Nat.add_sub_cancel_left]
    have e2 : (if 1100000 + i = 2000000 then b else if 1100000 + i = 3000000 then ro else if 1100000 + i < 1100000 then (ad (1100000 + i - 1000000)).1 else (ad (1100000 + i - 1100000)).2) = (ad i).2 := by
      rw [if_neg (by omega), if_neg (by omega), if_neg (by omega), Nat.add_sub_cancel_left]
    have e3 : ((ir_X L xs).2.1 (1100000 + i) 0).toInt.toNat = (ir_byt i).length := by
      show (if 1100000 + i = 2000000 then Int64.ofNat L else if 1100000 + i = 3000000 then 6 else if 1100000 ≤ 1100000 + i then Int64.ofNat (ir_byt (1100000 + i - 1100000)).length else 0).toInt.toNat = _
      rw [if_neg (by omega), if_neg (by omega), if_pos (by omega), Nat.add_sub_cancel_left]
      exact ir_toI64 (ir_byt_le i hi)
    have e4 : (fun j => Value.int ((ir_X L xs).1 (1100000 + i) j)) = fun j => .int ((ir_byt i).getD j 0) := by
      funext j
      show Value.int (if 1100000 + i = 2000000 then xs j else if 1100000 + i = 3000000 then ir_rows.getD j 0 else if 1100000 ≤ 1100000 + i then (ir_byt (1100000 + i - 1100000)).getD j 0 else 0) = _
      rw [if_neg (by omega), if_neg (by omega), if_pos (by omega), Nat.add_sub_cancel_left]
    refine ⟨⟨?_, ?_, ?_, ?_, ?_, ?_⟩, ?_⟩
    · dsimp only; rw [e1]; exact g2
    · dsimp only; rw [e1]; exact g3
    · dsimp only; rw [e1, e2]; exact g4
    · dsimp only; rw [e2, e3, e4]; exact g5
    · show (if 1000000 ≤ 1000000 + i ∧ 1000000 + i < 1100000 then 1000000 + i + 100000 else 0) = _
      rw [if_pos (by omega)]
      omega
    · show (if 1000000 + i = 2000000 then xs 1 else if 1000000 + i = 3000000 then ir_rows.getD 1 0 else if 1100000 ≤ 1000000 + i then (ir_byt (1000000 + i - 1100000)).getD 1 0 else 0) = 0
      rw [if_neg (by omega), if_neg (by omega), if_neg (by omega)]
    · dsimp only
      rw [e1]
      exact vk_R.of (ht1 _ (ir_sr i hi)) (by first | exact g1 | (rw [Term.string_eval_of_vm (args := #[Value.ref b]) rfl]; exact g1))
  · exact hroT
  · obtain ⟨scr, h1, h2, h3, h4, h5⟩ := hX
    have e5 : ((ir_X L xs).2.1 2000000 0).toInt.toNat = L := ir_toI64 (by omega)
    refine ⟨scr, h1, h2, h3, ?_, ?_, fun j hj => ?_, hA b hbl⟩
    · dsimp only; rw [e5, h4]; exact Nat.le_refl _
    · dsimp only; rw [e5, h4]
      first | done | rfl
    · dsimp only at hj
      rw [e5] at hj
      exact h5 j hj
/-- THE LAW, OUT OF THE INTERPRETER: what is left is pure -/
theorem ir_law {p : Program} {e : Env} {s : State} {m : MethodId} {below : List Frame} {meth : Method} {c : Code} {l : Launch} {b L : Nat} {xs : Nat → Int32} (hl : l.stackTraces = false) (hL : L ≤ 3072) (C0 : lw_At p s m meth c b L xs) (htab : c.exceptionTable.toList = []) (hnm : meth.name = "law")
    {Mf : ir_M} (hv : ir_ca 201 ir_lawN [.ref 2000000] (ir_M0 L xs) = some (.inl (some (.int 1)), Mf)) (hc : ir_nc Mf ≤ room_1.cells) (hs : ir_ns Mf ≤ room_1.slots) : W p l e room_1 s m #[Value.ref b] below meth c s.heap [] 0 0 (lw_Z below #[Value.ref b] s) (entryFrame m ([Value.ref b] : List Value).toArray 8) := by
  obtain ⟨w, hw1, hw2, hw3, hE⟩ := ir_init hL C0
  obtain ⟨hx, hb, hr, hml, ho, hts, hX, hbl, hlk, hgv⟩ := C0
  have hv : ir_vl 200 ir_lawN 0 (ir_en ir_lawN [.ref 2000000]) [] (ir_M0 L xs) = some (.inl (some (.int 1)), Mf) := hv
  obtain ⟨n, hn⟩ := ir_vl_iff.mp hv
  have K : ir_cx w p l room_1 s m #[Value.ref b] meth c ir_lawN 200 :=
    ⟨hx, hb, hml, ho, fun v hv => hts v (List.mem_filter.mp hv).1, hE, by omega, hl, hlk, hnm, hr, by rw [htab]; rfl, by decide, by decide, by decide⟩
  have hR : ir_rep w (ir_M0 L xs) s.heap := by
    refine ⟨fun k q hq => ?_, Nat.le_refl _, by show 1 ≤ 1000000; decide, by show w.1 + 1 ≤ _; omega, fun a _ h2 k => ⟨if_pos h2, if_pos h2, if_pos h2⟩, fun a ha => ?_⟩
    · exact nomatch (show ([] : va_W)[k]? = some q from hq)
    · rw [hw3]
      exact ⟨funext fun j => if_neg (by omega), funext fun j => if_neg (by omega), funext fun j => if_neg (by omega)⟩
  have h9 := ir_sound n w p l e room_1 s m #[Value.ref b] below meth c ir_lawN 200 K 0 (ir_en ir_lawN [.ref 2000000]) [] (ir_M0 L xs) _ 0 0 hn (by show ir_nc Mf ≤ 0 + room_1.cells; omega) (by show ir_ns Mf ≤ 0 + room_1.slots; omega) s.heap [] hR ⟨Nat.le_refl _, fun _ _ _ => rfl, fun _ hq => absurd hq List.not_mem_nil⟩ ⟨Nat.le_refl _, Nat.le_refl _, fun _ => by show s.heap.size + 0 = w.1 + 1 + 0; omega⟩ _ (ir_en_lo hE.2.2.2.2.2.2.2.2.2.2.2.2.2.2 (y := ir_lawN) (as := [.ref 2000000]) (by decide)) (by rw [ir_en_len (by decide), hml]; rfl)
  have e1 : ([Value.ref 2000000].map (ir_tr w)) = [Value.ref b] := by
    show [Value.ref (ir_ro w 2000000)] = _
    rw [ir_ro_ext (by omega), hw2]
  rw [e1] at h9
  rw [lg_entry_eq]
  intro T hT X
  obtain ⟨t, a1, o, b1, b2, b3⟩ := h9 T hT X
  refine ⟨t, a1, o, b1, b2, ?_⟩
  rcases b3 with ⟨⟨⟨v, hv, ho⟩, hR9, hF9⟩, Lc, hfe, hLc⟩ | ⟨q, ho, E, ce, Lc, ⟨⟨k, hk, -⟩, -⟩, -⟩
  · cases hv
    refine ⟨ho, ?_⟩
    obtain ⟨f1, f2, f3⟩ := hfe
    refine ⟨f1, f2, ?_⟩
    refine State.sameButNew.mono (f3.weaken (fun y hy hlt => ?_) (Nat.le_refl _) (Nat.le_refl _)) hc hs
    have := hLc y hy
    have h7 : w.1 + 1 ≤ y.base := this
    rw [hw1] at h7
    exact absurd hlt (Nat.not_lt.mpr h7)
  · exact nomatch hk

