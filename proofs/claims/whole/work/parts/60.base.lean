/-! PURE: loops, frames, and where the cells lie. -/
theorem q_lp {σ : Type} {V : Nat → σ → ir_R} {N : Nat} {I : Nat → σ → Prop} {R : ir_R → Prop} (step : ∀ i t, i < N → I i t → R (V i t) ∨ ∃ t', I (i + 1) t' ∧ V i t = V (i + 1) t') (stop : ∀ t, I N t → R (V N t)) : ∀ (k i : Nat) (t : σ), i + k = N → I i t → R (V i t) := by
  intro k
  induction k with
  | zero =>
    intro i t hi ht
    have : i = N := by omega
    subst this
    exact stop t ht
  | succ k ih =>
    intro i t hi ht
    rcases step i t (by omega) ht with h | ⟨t', h1, h2⟩
    · exact h
    · rw [h2]
      exact ih (i + 1) t' (by omega) h1
/-- a loop that goes on to its end -/
theorem q_up {σ : Type} {V : Nat → σ → ir_R} {N : Nat} {I : Nat → σ → Prop} {K : σ → ir_R} (step : ∀ i t, i < N → I i t → ∃ t', I (i + 1) t' ∧ V i t = V (i + 1) t') (stop : ∀ t, I N t → V N t = K t) {i : Nat} {t : σ} (hi : i ≤ N) (ht : I i t) : ∃ t', I N t' ∧ V i t = K t' :=
  q_lp (R := fun r => ∃ t', I N t' ∧ r = K t') (fun i t h1 h2 => Or.inr (step i t h1 h2)) (fun t h => ⟨t, h, stop t h⟩) (N - i) i t (by omega) ht
/-- M' is M but for the numbers in the cells S -/
def q_eq (S : List Nat) (M M' : ir_M) : Prop := (∀ a, a ∉ S → M'.1 a = M.1 a) ∧ M'.2 = M.2
theorem q_eq.rf (S : List Nat) (M : ir_M) : q_eq S M M := ⟨fun _ _ => rfl, rfl⟩
theorem q_eq.tr {S : List Nat} {A B C : ir_M} (h : q_eq S A B) (k : q_eq S B C) : q_eq S A C := ⟨fun a ha => (k.1 a ha).trans (h.1 a ha), k.2.trans h.2⟩
theorem q_eq.sub {S T : List Nat} {A B : ir_M} (h : q_eq S A B) (k : ∀ a, a ∈ S → a ∈ T) : q_eq T A B := ⟨fun a ha => h.1 a (fun q => ha (k a q)), h.2⟩
theorem q_eq.sI {S : List Nat} {M : ir_M} {a k : Nat} {v : Int32} (h : a ∈ S) : q_eq S M (ir_sI M a k v) := ⟨fun b hb => if_neg (fun q : b = a => hb (by rw [q]; exact h)), rfl⟩
theorem q_eq.cp {S : List Nat} {M : ir_M} {a b c d n : Nat} (h : c ∈ S) : q_eq S M (ir_cp M a b c d n) := ⟨fun x hx => if_neg (fun q : x = c => hx (by rw [q]; exact h)), rfl⟩
theorem q_ck {b : Bool} {r : ir_R} (h : b = true) : ir_ck b r = r := by rw [h]; rfl
theorem q_inb {k n : Nat} (h : k < n) (hn : n < 2 ^ 31) : ir_inb (nI k) n = true := by
  unfold ir_inb
  rw [nI_clamp (by omega)]
  have : ¬ nI k < 0 := nI_pos (by omega)
  simp [this, h]
theorem q_I_s {M : ir_M} {a k : Nat} {v : Int32} : ir_I (ir_sI M a k v) a k = v := by
  show (if a = a then upd (M.1 a) k v else M.1 a) k = v
  rw [if_pos rfl]
  exact if_pos rfl
theorem q_I_n {M : ir_M} {a b k j : Nat} {v : Int32} (h : b ≠ a) : ir_I (ir_sI M a k v) b j = ir_I M b j := by
  show (if b = a then upd (M.1 a) k v else M.1 b) j = M.1 b j
  rw [if_neg h]
theorem q_I_k {M : ir_M} {a k j : Nat} {v : Int32} (h : j ≠ k) : ir_I (ir_sI M a k v) a j = ir_I M a j := by
  show (if a = a then upd (M.1 a) k v else M.1 a) j = M.1 a j
  rw [if_pos rfl]
  exact if_neg h
theorem q_P_sI {M : ir_M} {a k b j : Nat} {v : Int32} : ir_P (ir_sI M a k v) b j = ir_P M b j := rfl
theorem q_J_sI {M : ir_M} {a k b j : Nat} {v : Int32} : ir_J (ir_sI M a k v) b j = ir_J M b j := rfl
theorem q_I_eq {S : List Nat} {M M' : ir_M} (h : q_eq S M M') {a : Nat} (ha : a ∉ S) (k : Nat) : ir_I M' a k = ir_I M a k := congrFun (h.1 a ha) k
theorem q_lt {M : ir_M} {k : ir_M → ir_R} : ir_lt M k = k M := rfl
def q_pt : List (List (Nat × Nat × Nat)) := [[(1, 0, 2), (1, 4, 3), (1, 5, 4), (1, 6, 12), (1, 7, 91), (1, 8, 97), (1, 9, 98), (1, 10, 99), (1, 11, 100), (1, 12, 116), (1, 13, 121), (1, 14, 125), (1, 15, 129), (1, 16, 133), (3, 0, 4), (3, 1, 12)], [(3, 4, 18), (4, 7, 5), (4, 8, 6), (4, 9, 7), (4, 10, 10), (4, 11, 11), (7, 1, 8), (7, 2, 9), (12, 4, 13), (12, 5, 14), (12, 6, 15), (12, 7, 16), (12, 8, 17), (18, 0, 19), (18, 1, 25), (18, 2, 31)], [(18, 3, 37), (18, 4, 43), (18, 5, 49), (18, 6, 55), (18, 7, 61), (18, 8, 67), (18, 9, 73), (18, 10, 79), (18, 11, 85), (19, 4, 20), (19, 5, 21), (19, 6, 22), (19, 7, 23), (19, 8, 24), (25, 4, 26), (25, 5, 27)], [(25, 6, 28), (25, 7, 29), (25, 8, 30), (31, 4, 32), (31, 5, 33), (31, 6, 34), (31, 7, 35), (31, 8, 36), (37, 4, 38), (37, 5, 39), (37, 6, 40), (37, 7, 41), (37, 8, 42), (43, 4, 44), (43, 5, 45), (43, 6, 46)], [(43, 7, 47), (43, 8, 48), (49, 4, 50), (49, 5, 51), (49, 6, 52), (49, 7, 53), (49, 8, 54), (55, 4, 56), (55, 5, 57), (55, 6, 58), (55, 7, 59), (55, 8, 60), (61, 4, 62), (61, 5, 63), (61, 6, 64), (61, 7, 65)], [(61, 8, 66), (67, 4, 68), (67, 5, 69), (67, 6, 70), (67, 7, 71), (67, 8, 72), (73, 4, 74), (73, 5, 75), (73, 6, 76), (73, 7, 77), (73, 8, 78), (79, 4, 80), (79, 5, 81), (79, 6, 82), (79, 7, 83), (79, 8, 84)], [(85, 4, 86), (85, 5, 87), (85, 6, 88), (85, 7, 89), (85, 8, 90), (91, 4, 92), (91, 5, 93), (91, 6, 94), (91, 7, 95), (91, 8, 96), (97, 0, 140), (97, 1, 228), (97, 2, 316), (99, 0, 404), (99, 1, 406), (99, 2, 408)], [(99, 3, 410), (100, 2, 101), (100, 3, 109), (100, 4, 115), (101, 7, 102), (101, 8, 103), (101, 9, 104), (101, 10, 107), (101, 11, 108), (104, 1, 105), (104, 2, 106), (109, 4, 110), (109, 5, 111), (109, 6, 112), (109, 7, 113), (109, 8, 114)], [(116, 0, 117), (116, 1, 118), (116, 2, 119), (116, 3, 120), (121, 4, 122), (121, 6, 123), (121, 7, 124), (125, 1, 126), (125, 5, 127), (125, 6, 128), (129, 0, 130), (129, 1, 131), (129, 2, 132), (133, 0, 134), (133, 1, 135), (133, 2, 136)], [(133, 3, 137), (140, 0, 141), (140, 1, 149), (140, 4, 155), (141, 7, 142), (141, 8, 143), (141, 9, 144), (141, 10, 147), (141, 11, 148), (144, 1, 145), (144, 2, 146), (149, 4, 150), (149, 5, 151), (149, 6, 152), (149, 7, 153), (149, 8, 154)], [(155, 0, 156), (155, 1, 162), (155, 2, 168), (155, 3, 174), (155, 4, 180), (155, 5, 186), (155, 6, 192), (155, 7, 198), (155, 8, 204), (155, 9, 210), (155, 10, 216), (155, 11, 222), (156, 4, 157), (156, 5, 158), (156, 6, 159), (156, 7, 160)], [(156, 8, 161), (162, 4, 163), (162, 5, 164), (162, 6, 165), (162, 7, 166), (162, 8, 167), (168, 4, 169), (168, 5, 170), (168, 6, 171), (168, 7, 172), (168, 8, 173), (174, 4, 175), (174, 5, 176), (174, 6, 177), (174, 7, 178), (174, 8, 179)], [(180, 4, 181), (180, 5, 182), (180, 6, 183), (180, 7, 184), (180, 8, 185), (186, 4, 187), (186, 5, 188), (186, 6, 189), (186, 7, 190), (186, 8, 191), (192, 4, 193), (192, 5, 194), (192, 6, 195), (192, 7, 196), (192, 8, 197), (198, 4, 199)], [(198, 5, 200), (198, 6, 201), (198, 7, 202), (198, 8, 203), (204, 4, 205), (204, 5, 206), (204, 6, 207), (204, 7, 208), (204, 8, 209), (210, 4, 211), (210, 5, 212), (210, 6, 213), (210, 7, 214), (210, 8, 215), (216, 4, 217), (216, 5, 218)], [(216, 6, 219), (216, 7, 220), (216, 8, 221), (222, 4, 223), (222, 5, 224), (222, 6, 225), (222, 7, 226), (222, 8, 227), (228, 0, 229), (228, 1, 237), (228, 4, 243), (229, 7, 230), (229, 8, 231), (229, 9, 232), (229, 10, 235), (229, 11, 236)], [(232, 1, 233), (232, 2, 234), (237, 4, 238), (237, 5, 239), (237, 6, 240), (237, 7, 241), (237, 8, 242), (243, 0, 244), (243, 1, 250), (243, 2, 256), (243, 3, 262), (243, 4, 268), (243, 5, 274), (243, 6, 280), (243, 7, 286), (243, 8, 292)], [(243, 9, 298), (243, 10, 304), (243, 11, 310), (244, 4, 245), (244, 5, 246), (244, 6, 247), (244, 7, 248), (244, 8, 249), (250, 4, 251), (250, 5, 252), (250, 6, 253), (250, 7, 254), (250, 8, 255), (256, 4, 257), (256, 5, 258), (256, 6, 259)], [(256, 7, 260), (256, 8, 261), (262, 4, 263), (262, 5, 264), (262, 6, 265), (262, 7, 266), (262, 8, 267), (268, 4, 269), (268, 5, 270), (268, 6, 271), (268, 7, 272), (268, 8, 273), (274, 4, 275), (274, 5, 276), (274, 6, 277), (274, 7, 278)], [(274, 8, 279), (280, 4, 281), (280, 5, 282), (280, 6, 283), (280, 7, 284), (280, 8, 285), (286, 4, 287), (286, 5, 288), (286, 6, 289), (286, 7, 290), (286, 8, 291), (292, 4, 293), (292, 5, 294), (292, 6, 295), (292, 7, 296), (292, 8, 297)], [(298, 4, 299), (298, 5, 300), (298, 6, 301), (298, 7, 302), (298, 8, 303), (304, 4, 305), (304, 5, 306), (304, 6, 307), (304, 7, 308), (304, 8, 309), (310, 4, 311), (310, 5, 312), (310, 6, 313), (310, 7, 314), (310, 8, 315), (316, 0, 317)], [(316, 1, 325), (316, 4, 331), (317, 7, 318), (317, 8, 319), (317, 9, 320), (317, 10, 323), (317, 11, 324), (320, 1, 321), (320, 2, 322), (325, 4, 326), (325, 5, 327), (325, 6, 328), (325, 7, 329), (325, 8, 330), (331, 0, 332), (331, 1, 338)], [(331, 2, 344), (331, 3, 350), (331, 4, 356), (331, 5, 362), (331, 6, 368), (331, 7, 374), (331, 8, 380), (331, 9, 386), (331, 10, 392), (331, 11, 398), (332, 4, 333), (332, 5, 334), (332, 6, 335), (332, 7, 336), (332, 8, 337), (338, 4, 339)], [(338, 5, 340), (338, 6, 341), (338, 7, 342), (338, 8, 343), (344, 4, 345), (344, 5, 346), (344, 6, 347), (344, 7, 348), (344, 8, 349), (350, 4, 351), (350, 5, 352), (350, 6, 353), (350, 7, 354), (350, 8, 355), (356, 4, 357), (356, 5, 358)], [(356, 6, 359), (356, 7, 360), (356, 8, 361), (362, 4, 363), (362, 5, 364), (362, 6, 365), (362, 7, 366), (362, 8, 367), (368, 4, 369), (368, 5, 370), (368, 6, 371), (368, 7, 372), (368, 8, 373), (374, 4, 375), (374, 5, 376), (374, 6, 377)], [(374, 7, 378), (374, 8, 379), (380, 4, 381), (380, 5, 382), (380, 6, 383), (380, 7, 384), (380, 8, 385), (386, 4, 387), (386, 5, 388), (386, 6, 389), (386, 7, 390), (386, 8, 391), (392, 4, 393), (392, 5, 394), (392, 6, 395), (392, 7, 396)], [(392, 8, 397), (398, 4, 399), (398, 5, 400), (398, 6, 401), (398, 7, 402), (398, 8, 403), (404, 3, 405), (406, 3, 407), (408, 3, 409), (410, 3, 411), (412, 0, 413), (412, 1, 414), (412, 2, 415), (412, 3, 416), (412, 5, 417), (412, 17, 418)], [(412, 18, 419), (412, 19, 420), (412, 20, 421), (412, 25, 422), (412, 30, 423), (412, 31, 424), (412, 32, 425), (412, 36, 426), (412, 37, 427), (412, 39, 428), (412, 40, 429), (412, 41, 430), (412, 44, 431), (412, 45, 432), (412, 47, 433), (412, 48, 434)], [(412, 49, 435)]]
def q_PI (M : ir_M) : Prop := ir_nx M = 437 ∧ (∀ l ∈ q_pt, ∀ e ∈ l, M.2.2.1 e.1 e.2.1 = e.2.2) ∧ ((M.2.2.1 133 4 = 138 ∧ M.2.2.1 133 5 = 139) ∨ (M.2.2.1 133 4 = 139 ∧ M.2.2.1 133 5 = 138))
theorem q_PI_sI {M : ir_M} {a k : Nat} {v : Int32} : q_PI (ir_sI M a k v) = q_PI M := rfl
theorem q_PI_sJ {M : ir_M} {a k : Nat} {v : Int64} : q_PI (ir_sJ M a k v) = q_PI M := rfl
theorem q_PI_cp {M : ir_M} {a b c d n : Nat} : q_PI (ir_cp M a b c d n) = q_PI M := rfl
theorem q_PI_th {M : ir_M} : q_PI (ir_th M) = q_PI M := rfl
theorem q_pt_of {M : ir_M} (h : q_PI M) (i j : Nat) {l : List (Nat × Nat × Nat)} {e : Nat × Nat × Nat} (h1 : ir_nth q_pt i = some l) (h2 : ir_nth l j = some e) : M.2.2.1 e.1 e.2.1 = e.2.2 := h.2.1 l (ir_nth_mem _ _ _ h1) e (ir_nth_mem _ _ _ h2)
section Q0
variable {M : ir_M}
theorem q_gk0 (h : q_PI M) {a c : Nat} (h1 : (Nat.beq (ir_kd a) c && Nat.blt a 437) = true) : ir_gk M a c = true := by
  obtain ⟨h1, h2⟩ := ir_and h1
  unfold ir_gk
  rw [h1, h.1, h2]
  rfl
theorem q_ga0 (h : q_PI M) {a c n : Nat} (h1 : (Nat.beq (ir_kd a) c && Nat.blt a 437) = true) (h2 : ir_ln M a = n) (i : Int32) : ir_ga M a c i = ir_inb i n := by
  unfold ir_ga
  rw [q_gk0 h h1, h2]
  rfl
theorem q_gw0 (h : q_PI M) {a c n : Nat} (h1 : (Nat.beq (ir_kd a) c && Nat.blt a 437) = true) (h2 : ir_ln M a = n) (h3 : Nat.blt a 1000000 = true) (i : Int32) : ir_gw M a c i = ir_inb i n := by
  unfold ir_gw
  rw [q_ga0 h h1 h2, h3]
  exact Bool.and_true _
theorem q_gq0 (h : q_PI M) {a c : Nat} (h1 : (Nat.beq (ir_kd a) c && Nat.blt a 437) = true) (h3 : Nat.blt a 1000000 = true) : ir_gq M a c = true := by
  unfold ir_gq
  rw [q_gk0 h h1, h3]
  rfl
theorem q_gp0 (h : q_PI M) {a c k v : Nat} (h1 : (Nat.beq (ir_kd a) c && Nat.blt a 437) = true) (h2 : ir_P M a k = v) (h3 : Nat.blt 0 v = true) : ir_gp M a c k = true := by
  unfold ir_gp
  rw [q_gk0 h h1, h2, h3]
  rfl
theorem q_k1 (h : q_PI M) : ir_gk M 1 11 = true := q_gk0 h rfl
theorem q_q1 (h : q_PI M) : ir_gq M 1 11 = true := q_gq0 h rfl rfl
theorem q_a2 (h : q_PI M) (i : Int32) : ir_ga M 2 102 i = ir_inb i 900 := q_ga0 h rfl rfl i
theorem q_w2 (h : q_PI M) (i : Int32) : ir_gw M 2 102 i = ir_inb i 900 := q_gw0 h rfl rfl rfl i
theorem q_k3 (h : q_PI M) : ir_gk M 3 5 = true := q_gk0 h rfl
theorem q_q3 (h : q_PI M) : ir_gq M 3 5 = true := q_gq0 h rfl rfl
theorem q_k4 (h : q_PI M) : ir_gk M 4 9 = true := q_gk0 h rfl
theorem q_q4 (h : q_PI M) : ir_gq M 4 9 = true := q_gq0 h rfl rfl
theorem q_a5 (h : q_PI M) (i : Int32) : ir_ga M 5 100 i = ir_inb i 8 := q_ga0 h rfl rfl i
theorem q_w5 (h : q_PI M) (i : Int32) : ir_gw M 5 100 i = ir_inb i 8 := q_gw0 h rfl rfl rfl i
theorem q_a6 (h : q_PI M) (i : Int32) : ir_ga M 6 100 i = ir_inb i 8 := q_ga0 h rfl rfl i
theorem q_w6 (h : q_PI M) (i : Int32) : ir_gw M 6 100 i = ir_inb i 8 := q_gw0 h rfl rfl rfl i
theorem q_k7 (h : q_PI M) : ir_gk M 7 1 = true := q_gk0 h rfl
theorem q_q7 (h : q_PI M) : ir_gq M 7 1 = true := q_gq0 h rfl rfl
theorem q_a8 (h : q_PI M) (i : Int32) : ir_ga M 8 100 i = ir_inb i 900 := q_ga0 h rfl rfl i
theorem q_w8 (h : q_PI M) (i : Int32) : ir_gw M 8 100 i = ir_inb i 900 := q_gw0 h rfl rfl rfl i
theorem q_a9 (h : q_PI M) (i : Int32) : ir_ga M 9 100 i = ir_inb i 64 := q_ga0 h rfl rfl i
theorem q_w9 (h : q_PI M) (i : Int32) : ir_gw M 9 100 i = ir_inb i 64 := q_gw0 h rfl rfl rfl i
theorem q_a10 (h : q_PI M) (i : Int32) : ir_ga M 10 100 i = ir_inb i 48 := q_ga0 h rfl rfl i
theorem q_w10 (h : q_PI M) (i : Int32) : ir_gw M 10 100 i = ir_inb i 48 := q_gw0 h rfl rfl rfl i
theorem q_a11 (h : q_PI M) (i : Int32) : ir_ga M 11 100 i = ir_inb i 64 := q_ga0 h rfl rfl i
theorem q_w11 (h : q_PI M) (i : Int32) : ir_gw M 11 100 i = ir_inb i 64 := q_gw0 h rfl rfl rfl i
theorem q_k12 (h : q_PI M) : ir_gk M 12 8 = true := q_gk0 h rfl
theorem q_q12 (h : q_PI M) : ir_gq M 12 8 = true := q_gq0 h rfl rfl
theorem q_a13 (h : q_PI M) (i : Int32) : ir_ga M 13 100 i = ir_inb i 8 := q_ga0 h rfl rfl i
theorem q_w13 (h : q_PI M) (i : Int32) : ir_gw M 13 100 i = ir_inb i 8 := q_gw0 h rfl rfl rfl i
theorem q_a14 (h : q_PI M) (i : Int32) : ir_ga M 14 100 i = ir_inb i 8 := q_ga0 h rfl rfl i
theorem q_w14 (h : q_PI M) (i : Int32) : ir_gw M 14 100 i = ir_inb i 8 := q_gw0 h rfl rfl rfl i
theorem q_a15 (h : q_PI M) (i : Int32) : ir_ga M 15 100 i = ir_inb i 8 := q_ga0 h rfl rfl i
theorem q_w15 (h : q_PI M) (i : Int32) : ir_gw M 15 100 i = ir_inb i 8 := q_gw0 h rfl rfl rfl i
theorem q_a16 (h : q_PI M) (i : Int32) : ir_ga M 16 100 i = ir_inb i 8 := q_ga0 h rfl rfl i
theorem q_w16 (h : q_PI M) (i : Int32) : ir_gw M 16 100 i = ir_inb i 8 := q_gw0 h rfl rfl rfl i
theorem q_a17 (h : q_PI M) (i : Int32) : ir_ga M 17 100 i = ir_inb i 8 := q_ga0 h rfl rfl i
theorem q_w17 (h : q_PI M) (i : Int32) : ir_gw M 17 100 i = ir_inb i 8 := q_gw0 h rfl rfl rfl i
theorem q_a18 (h : q_PI M) (i : Int32) : ir_ga M 18 105 i = ir_inb i 12 := q_ga0 h rfl rfl i
theorem q_w18 (h : q_PI M) (i : Int32) : ir_gw M 18 105 i = ir_inb i 12 := q_gw0 h rfl rfl rfl i
theorem q_k19 (h : q_PI M) : ir_gk M 19 8 = true := q_gk0 h rfl
theorem q_q19 (h : q_PI M) : ir_gq M 19 8 = true := q_gq0 h rfl rfl
theorem q_a20 (h : q_PI M) (i : Int32) : ir_ga M 20 100 i = ir_inb i 8 := q_ga0 h rfl rfl i
theorem q_w20 (h : q_PI M) (i : Int32) : ir_gw M 20 100 i = ir_inb i 8 := q_gw0 h rfl rfl rfl i
theorem q_a21 (h : q_PI M) (i : Int32) : ir_ga M 21 100 i = ir_inb i 8 := q_ga0 h rfl rfl i
theorem q_w21 (h : q_PI M) (i : Int32) : ir_gw M 21 100 i = ir_inb i 8 := q_gw0 h rfl rfl rfl i
theorem q_a22 (h : q_PI M) (i : Int32) : ir_ga M 22 100 i = ir_inb i 8 := q_ga0 h rfl rfl i
theorem q_w22 (h : q_PI M) (i : Int32) : ir_gw M 22 100 i = ir_inb i 8 := q_gw0 h rfl rfl rfl i
theorem q_a23 (h : q_PI M) (i : Int32) : ir_ga M 23 100 i = ir_inb i 8 := q_ga0 h rfl rfl i
theorem q_w23 (h : q_PI M) (i : Int32) : ir_gw M 23 100 i = ir_inb i 8 := q_gw0 h rfl rfl rfl i
theorem q_a24 (h : q_PI M) (i : Int32) : ir_ga M 24 100 i = ir_inb i 8 := q_ga0 h rfl rfl i
theorem q_w24 (h : q_PI M) (i : Int32) : ir_gw M 24 100 i = ir_inb i 8 := q_gw0 h rfl rfl rfl i
theorem q_k25 (h : q_PI M) : ir_gk M 25 8 = true := q_gk0 h rfl
theorem q_q25 (h : q_PI M) : ir_gq M 25 8 = true := q_gq0 h rfl rfl
theorem q_a26 (h : q_PI M) (i : Int32) : ir_ga M 26 100 i = ir_inb i 8 := q_ga0 h rfl rfl i
theorem q_w26 (h : q_PI M) (i : Int32) : ir_gw M 26 100 i = ir_inb i 8 := q_gw0 h rfl rfl rfl i
theorem q_a27 (h : q_PI M) (i : Int32) : ir_ga M 27 100 i = ir_inb i 8 := q_ga0 h rfl rfl i
theorem q_w27 (h : q_PI M) (i : Int32) : ir_gw M 27 100 i = ir_inb i 8 := q_gw0 h rfl rfl rfl i
theorem q_a28 (h : q_PI M) (i : Int32) : ir_ga M 28 100 i = ir_inb i 8 := q_ga0 h rfl rfl i
theorem q_w28 (h : q_PI M) (i : Int32) : ir_gw M 28 100 i = ir_inb i 8 := q_gw0 h rfl rfl rfl i
theorem q_a29 (h : q_PI M) (i : Int32) : ir_ga M 29 100 i = ir_inb i 8 := q_ga0 h rfl rfl i
theorem q_w29 (h : q_PI M) (i : Int32) : ir_gw M 29 100 i = ir_inb i 8 := q_gw0 h rfl rfl rfl i
theorem q_a30 (h : q_PI M) (i : Int32) : ir_ga M 30 100 i = ir_inb i 8 := q_ga0 h rfl rfl i
theorem q_w30 (h : q_PI M) (i : Int32) : ir_gw M 30 100 i = ir_inb i 8 := q_gw0 h rfl rfl rfl i
theorem q_k31 (h : q_PI M) : ir_gk M 31 8 = true := q_gk0 h rfl
theorem q_q31 (h : q_PI M) : ir_gq M 31 8 = true := q_gq0 h rfl rfl
theorem q_a32 (h : q_PI M) (i : Int32) : ir_ga M 32 100 i = ir_inb i 8 := q_ga0 h rfl rfl i
theorem q_w32 (h : q_PI M) (i : Int32) : ir_gw M 32 100 i = ir_inb i 8 := q_gw0 h rfl rfl rfl i
theorem q_a33 (h : q_PI M) (i : Int32) : ir_ga M 33 100 i = ir_inb i 8 := q_ga0 h rfl rfl i
theorem q_w33 (h : q_PI M) (i : Int32) : ir_gw M 33 100 i = ir_inb i 8 := q_gw0 h rfl rfl rfl i
theorem q_a34 (h : q_PI M) (i : Int32) : ir_ga M 34 100 i = ir_inb i 8 := q_ga0 h rfl rfl i
theorem q_w34 (h : q_PI M) (i : Int32) : ir_gw M 34 100 i = ir_inb i 8 := q_gw0 h rfl rfl rfl i
theorem q_a35 (h : q_PI M) (i : Int32) : ir_ga M 35 100 i = ir_inb i 8 := q_ga0 h rfl rfl i
theorem q_w35 (h : q_PI M) (i : Int32) : ir_gw M 35 100 i = ir_inb i 8 := q_gw0 h rfl rfl rfl i
theorem q_a36 (h : q_PI M) (i : Int32) : ir_ga M 36 100 i = ir_inb i 8 := q_ga0 h rfl rfl i
theorem q_w36 (h : q_PI M) (i : Int32) : ir_gw M 36 100 i = ir_inb i 8 := q_gw0 h rfl rfl rfl i
theorem q_k37 (h : q_PI M) : ir_gk M 37 8 = true := q_gk0 h rfl
theorem q_q37 (h : q_PI M) : ir_gq M 37 8 = true := q_gq0 h rfl rfl
theorem q_a38 (h : q_PI M) (i : Int32) : ir_ga M 38 100 i = ir_inb i 8 := q_ga0 h rfl rfl i
theorem q_w38 (h : q_PI M) (i : Int32) : ir_gw M 38 100 i = ir_inb i 8 := q_gw0 h rfl rfl rfl i
theorem q_a39 (h : q_PI M) (i : Int32) : ir_ga M 39 100 i = ir_inb i 8 := q_ga0 h rfl rfl i
theorem q_w39 (h : q_PI M) (i : Int32) : ir_gw M 39 100 i = ir_inb i 8 := q_gw0 h rfl rfl rfl i
theorem q_a40 (h : q_PI M) (i : Int32) : ir_ga M 40 100 i = ir_inb i 8 := q_ga0 h rfl rfl i
theorem q_w40 (h : q_PI M) (i : Int32) : ir_gw M 40 100 i = ir_inb i 8 := q_gw0 h rfl rfl rfl i
theorem q_a41 (h : q_PI M) (i : Int32) : ir_ga M 41 100 i = ir_inb i 8 := q_ga0 h rfl rfl i
theorem q_w41 (h : q_PI M) (i : Int32) : ir_gw M 41 100 i = ir_inb i 8 := q_gw0 h rfl rfl rfl i
theorem q_a42 (h : q_PI M) (i : Int32) : ir_ga M 42 100 i = ir_inb i 8 := q_ga0 h rfl rfl i
theorem q_w42 (h : q_PI M) (i : Int32) : ir_gw M 42 100 i = ir_inb i 8 := q_gw0 h rfl rfl rfl i
theorem q_k43 (h : q_PI M) : ir_gk M 43 8 = true := q_gk0 h rfl
theorem q_q43 (h : q_PI M) : ir_gq M 43 8 = true := q_gq0 h rfl rfl
theorem q_a44 (h : q_PI M) (i : Int32) : ir_ga M 44 100 i = ir_inb i 8 := q_ga0 h rfl rfl i
theorem q_w44 (h : q_PI M) (i : Int32) : ir_gw M 44 100 i = ir_inb i 8 := q_gw0 h rfl rfl rfl i
theorem q_a45 (h : q_PI M) (i : Int32) : ir_ga M 45 100 i = ir_inb i 8 := q_ga0 h rfl rfl i
theorem q_w45 (h : q_PI M) (i : Int32) : ir_gw M 45 100 i = ir_inb i 8 := q_gw0 h rfl rfl rfl i
theorem q_a46 (h : q_PI M) (i : Int32) : ir_ga M 46 100 i = ir_inb i 8 := q_ga0 h rfl rfl i
theorem q_w46 (h : q_PI M) (i : Int32) : ir_gw M 46 100 i = ir_inb i 8 := q_gw0 h rfl rfl rfl i
theorem q_a47 (h : q_PI M) (i : Int32) : ir_ga M 47 100 i = ir_inb i 8 := q_ga0 h rfl rfl i
theorem q_w47 (h : q_PI M) (i : Int32) : ir_gw M 47 100 i = ir_inb i 8 := q_gw0 h rfl rfl rfl i
theorem q_a48 (h : q_PI M) (i : Int32) : ir_ga M 48 100 i = ir_inb i 8 := q_ga0 h rfl rfl i
theorem q_w48 (h : q_PI M) (i : Int32) : ir_gw M 48 100 i = ir_inb i 8 := q_gw0 h rfl rfl rfl i
theorem q_k49 (h : q_PI M) : ir_gk M 49 8 = true := q_gk0 h rfl
theorem q_q49 (h : q_PI M) : ir_gq M 49 8 = true := q_gq0 h rfl rfl
theorem q_a50 (h : q_PI M) (i : Int32) : ir_ga M 50 100 i = ir_inb i 8 := q_ga0 h rfl rfl i
theorem q_w50 (h : q_PI M) (i : Int32) : ir_gw M 50 100 i = ir_inb i 8 := q_gw0 h rfl rfl rfl i
theorem q_a51 (h : q_PI M) (i : Int32) : ir_ga M 51 100 i = ir_inb i 8 := q_ga0 h rfl rfl i
theorem q_w51 (h : q_PI M) (i : Int32) : ir_gw M 51 100 i = ir_inb i 8 := q_gw0 h rfl rfl rfl i
theorem q_a52 (h : q_PI M) (i : Int32) : ir_ga M 52 100 i = ir_inb i 8 := q_ga0 h rfl rfl i
theorem q_w52 (h : q_PI M) (i : Int32) : ir_gw M 52 100 i = ir_inb i 8 := q_gw0 h rfl rfl rfl i
theorem q_a53 (h : q_PI M) (i : Int32) : ir_ga M 53 100 i = ir_inb i 8 := q_ga0 h rfl rfl i
theorem q_w53 (h : q_PI M) (i : Int32) : ir_gw M 53 100 i = ir_inb i 8 := q_gw0 h rfl rfl rfl i
theorem q_a54 (h : q_PI M) (i : Int32) : ir_ga M 54 100 i = ir_inb i 8 := q_ga0 h rfl rfl i
theorem q_w54 (h : q_PI M) (i : Int32) : ir_gw M 54 100 i = ir_inb i 8 := q_gw0 h rfl rfl rfl i
theorem q_k55 (h : q_PI M) : ir_gk M 55 8 = true := q_gk0 h rfl
theorem q_q55 (h : q_PI M) : ir_gq M 55 8 = true := q_gq0 h rfl rfl
theorem q_a56 (h : q_PI M) (i : Int32) : ir_ga M 56 100 i = ir_inb i 8 := q_ga0 h rfl rfl i
theorem q_w56 (h : q_PI M) (i : Int32) : ir_gw M 56 100 i = ir_inb i 8 := q_gw0 h rfl rfl rfl i
theorem q_a57 (h : q_PI M) (i : Int32) : ir_ga M 57 100 i = ir_inb i 8 := q_ga0 h rfl rfl i
theorem q_w57 (h : q_PI M) (i : Int32) : ir_gw M 57 100 i = ir_inb i 8 := q_gw0 h rfl rfl rfl i
theorem q_a58 (h : q_PI M) (i : Int32) : ir_ga M 58 100 i = ir_inb i 8 := q_ga0 h rfl rfl i
theorem q_w58 (h : q_PI M) (i : Int32) : ir_gw M 58 100 i = ir_inb i 8 := q_gw0 h rfl rfl rfl i
theorem q_a59 (h : q_PI M) (i : Int32) : ir_ga M 59 100 i = ir_inb i 8 := q_ga0 h rfl rfl i
theorem q_w59 (h : q_PI M) (i : Int32) : ir_gw M 59 100 i = ir_inb i 8 := q_gw0 h rfl rfl rfl i
theorem q_a60 (h : q_PI M) (i : Int32) : ir_ga M 60 100 i = ir_inb i 8 := q_ga0 h rfl rfl i
theorem q_w60 (h : q_PI M) (i : Int32) : ir_gw M 60 100 i = ir_inb i 8 := q_gw0 h rfl rfl rfl i
theorem q_k61 (h : q_PI M) : ir_gk M 61 8 = true := q_gk0 h rfl
theorem q_q61 (h : q_PI M) : ir_gq M 61 8 = true := q_gq0 h rfl rfl
theorem q_a62 (h : q_PI M) (i : Int32) : ir_ga M 62 100 i = ir_inb i 8 := q_ga0 h rfl rfl i
theorem q_w62 (h : q_PI M) (i : Int32) : ir_gw M 62 100 i = ir_inb i 8 := q_gw0 h rfl rfl rfl i
theorem q_a63 (h : q_PI M) (i : Int32) : ir_ga M 63 100 i = ir_inb i 8 := q_ga0 h rfl rfl i
theorem q_w63 (h : q_PI M) (i : Int32) : ir_gw M 63 100 i = ir_inb i 8 := q_gw0 h rfl rfl rfl i
theorem q_a64 (h : q_PI M) (i : Int32) : ir_ga M 64 100 i = ir_inb i 8 := q_ga0 h rfl rfl i
theorem q_w64 (h : q_PI M) (i : Int32) : ir_gw M 64 100 i = ir_inb i 8 := q_gw0 h rfl rfl rfl i
theorem q_a65 (h : q_PI M) (i : Int32) : ir_ga M 65 100 i = ir_inb i 8 := q_ga0 h rfl rfl i
theorem q_w65 (h : q_PI M) (i : Int32) : ir_gw M 65 100 i = ir_inb i 8 := q_gw0 h rfl rfl rfl i
theorem q_a66 (h : q_PI M) (i : Int32) : ir_ga M 66 100 i = ir_inb i 8 := q_ga0 h rfl rfl i
theorem q_w66 (h : q_PI M) (i : Int32) : ir_gw M 66 100 i = ir_inb i 8 := q_gw0 h rfl rfl rfl i
theorem q_k67 (h : q_PI M) : ir_gk M 67 8 = true := q_gk0 h rfl
theorem q_q67 (h : q_PI M) : ir_gq M 67 8 = true := q_gq0 h rfl rfl
theorem q_a68 (h : q_PI M) (i : Int32) : ir_ga M 68 100 i = ir_inb i 8 := q_ga0 h rfl rfl i
theorem q_w68 (h : q_PI M) (i : Int32) : ir_gw M 68 100 i = ir_inb i 8 := q_gw0 h rfl rfl rfl i
theorem q_a69 (h : q_PI M) (i : Int32) : ir_ga M 69 100 i = ir_inb i 8 := q_ga0 h rfl rfl i
theorem q_w69 (h : q_PI M) (i : Int32) : ir_gw M 69 100 i = ir_inb i 8 := q_gw0 h rfl rfl rfl i
theorem q_a70 (h : q_PI M) (i : Int32) : ir_ga M 70 100 i = ir_inb i 8 := q_ga0 h rfl rfl i
theorem q_w70 (h : q_PI M) (i : Int32) : ir_gw M 70 100 i = ir_inb i 8 := q_gw0 h rfl rfl rfl i
theorem q_a71 (h : q_PI M) (i : Int32) : ir_ga M 71 100 i = ir_inb i 8 := q_ga0 h rfl rfl i
theorem q_w71 (h : q_PI M) (i : Int32) : ir_gw M 71 100 i = ir_inb i 8 := q_gw0 h rfl rfl rfl i
theorem q_a72 (h : q_PI M) (i : Int32) : ir_ga M 72 100 i = ir_inb i 8 := q_ga0 h rfl rfl i
theorem q_w72 (h : q_PI M) (i : Int32) : ir_gw M 72 100 i = ir_inb i 8 := q_gw0 h rfl rfl rfl i
theorem q_k73 (h : q_PI M) : ir_gk M 73 8 = true := q_gk0 h rfl
theorem q_q73 (h : q_PI M) : ir_gq M 73 8 = true := q_gq0 h rfl rfl
theorem q_a74 (h : q_PI M) (i : Int32) : ir_ga M 74 100 i = ir_inb i 8 := q_ga0 h rfl rfl i
theorem q_w74 (h : q_PI M) (i : Int32) : ir_gw M 74 100 i = ir_inb i 8 := q_gw0 h rfl rfl rfl i
theorem q_a75 (h : q_PI M) (i : Int32) : ir_ga M 75 100 i = ir_inb i 8 := q_ga0 h rfl rfl i
theorem q_w75 (h : q_PI M) (i : Int32) : ir_gw M 75 100 i = ir_inb i 8 := q_gw0 h rfl rfl rfl i
theorem q_a76 (h : q_PI M) (i : Int32) : ir_ga M 76 100 i = ir_inb i 8 := q_ga0 h rfl rfl i
theorem q_w76 (h : q_PI M) (i : Int32) : ir_gw M 76 100 i = ir_inb i 8 := q_gw0 h rfl rfl rfl i
theorem q_a77 (h : q_PI M) (i : Int32) : ir_ga M 77 100 i = ir_inb i 8 := q_ga0 h rfl rfl i
theorem q_w77 (h : q_PI M) (i : Int32) : ir_gw M 77 100 i = ir_inb i 8 := q_gw0 h rfl rfl rfl i
theorem q_a78 (h : q_PI M) (i : Int32) : ir_ga M 78 100 i = ir_inb i 8 := q_ga0 h rfl rfl i
theorem q_w78 (h : q_PI M) (i : Int32) : ir_gw M 78 100 i = ir_inb i 8 := q_gw0 h rfl rfl rfl i
theorem q_k79 (h : q_PI M) : ir_gk M 79 8 = true := q_gk0 h rfl
theorem q_q79 (h : q_PI M) : ir_gq M 79 8 = true := q_gq0 h rfl rfl
theorem q_a80 (h : q_PI M) (i : Int32) : ir_ga M 80 100 i = ir_inb i 8 := q_ga0 h rfl rfl i
theorem q_w80 (h : q_PI M) (i : Int32) : ir_gw M 80 100 i = ir_inb i 8 := q_gw0 h rfl rfl rfl i
theorem q_a81 (h : q_PI M) (i : Int32) : ir_ga M 81 100 i = ir_inb i 8 := q_ga0 h rfl rfl i
theorem q_w81 (h : q_PI M) (i : Int32) : ir_gw M 81 100 i = ir_inb i 8 := q_gw0 h rfl rfl rfl i
theorem q_a82 (h : q_PI M) (i : Int32) : ir_ga M 82 100 i = ir_inb i 8 := q_ga0 h rfl rfl i
theorem q_w82 (h : q_PI M) (i : Int32) : ir_gw M 82 100 i = ir_inb i 8 := q_gw0 h rfl rfl rfl i
theorem q_a83 (h : q_PI M) (i : Int32) : ir_ga M 83 100 i = ir_inb i 8 := q_ga0 h rfl rfl i
theorem q_w83 (h : q_PI M) (i : Int32) : ir_gw M 83 100 i = ir_inb i 8 := q_gw0 h rfl rfl rfl i
theorem q_a84 (h : q_PI M) (i : Int32) : ir_ga M 84 100 i = ir_inb i 8 := q_ga0 h rfl rfl i
theorem q_w84 (h : q_PI M) (i : Int32) : ir_gw M 84 100 i = ir_inb i 8 := q_gw0 h rfl rfl rfl i
theorem q_k85 (h : q_PI M) : ir_gk M 85 8 = true := q_gk0 h rfl
theorem q_q85 (h : q_PI M) : ir_gq M 85 8 = true := q_gq0 h rfl rfl
theorem q_a86 (h : q_PI M) (i : Int32) : ir_ga M 86 100 i = ir_inb i 8 := q_ga0 h rfl rfl i
theorem q_w86 (h : q_PI M) (i : Int32) : ir_gw M 86 100 i = ir_inb i 8 := q_gw0 h rfl rfl rfl i
theorem q_a87 (h : q_PI M) (i : Int32) : ir_ga M 87 100 i = ir_inb i 8 := q_ga0 h rfl rfl i
theorem q_w87 (h : q_PI M) (i : Int32) : ir_gw M 87 100 i = ir_inb i 8 := q_gw0 h rfl rfl rfl i
theorem q_a88 (h : q_PI M) (i : Int32) : ir_ga M 88 100 i = ir_inb i 8 := q_ga0 h rfl rfl i
theorem q_w88 (h : q_PI M) (i : Int32) : ir_gw M 88 100 i = ir_inb i 8 := q_gw0 h rfl rfl rfl i
theorem q_a89 (h : q_PI M) (i : Int32) : ir_ga M 89 100 i = ir_inb i 8 := q_ga0 h rfl rfl i
theorem q_w89 (h : q_PI M) (i : Int32) : ir_gw M 89 100 i = ir_inb i 8 := q_gw0 h rfl rfl rfl i
theorem q_a90 (h : q_PI M) (i : Int32) : ir_ga M 90 100 i = ir_inb i 8 := q_ga0 h rfl rfl i
theorem q_w90 (h : q_PI M) (i : Int32) : ir_gw M 90 100 i = ir_inb i 8 := q_gw0 h rfl rfl rfl i
theorem q_k91 (h : q_PI M) : ir_gk M 91 8 = true := q_gk0 h rfl
theorem q_q91 (h : q_PI M) : ir_gq M 91 8 = true := q_gq0 h rfl rfl
theorem q_a92 (h : q_PI M) (i : Int32) : ir_ga M 92 100 i = ir_inb i 8 := q_ga0 h rfl rfl i
theorem q_w92 (h : q_PI M) (i : Int32) : ir_gw M 92 100 i = ir_inb i 8 := q_gw0 h rfl rfl rfl i
theorem q_a93 (h : q_PI M) (i : Int32) : ir_ga M 93 100 i = ir_inb i 8 := q_ga0 h rfl rfl i
theorem q_w93 (h : q_PI M) (i : Int32) : ir_gw M 93 100 i = ir_inb i 8 := q_gw0 h rfl rfl rfl i
theorem q_a94 (h : q_PI M) (i : Int32) : ir_ga M 94 100 i = ir_inb i 8 := q_ga0 h rfl rfl i
theorem q_w94 (h : q_PI M) (i : Int32) : ir_gw M 94 100 i = ir_inb i 8 := q_gw0 h rfl rfl rfl i
theorem q_a95 (h : q_PI M) (i : Int32) : ir_ga M 95 100 i = ir_inb i 8 := q_ga0 h rfl rfl i
theorem q_w95 (h : q_PI M) (i : Int32) : ir_gw M 95 100 i = ir_inb i 8 := q_gw0 h rfl rfl rfl i
theorem q_a96 (h : q_PI M) (i : Int32) : ir_ga M 96 100 i = ir_inb i 8 := q_ga0 h rfl rfl i
theorem q_w96 (h : q_PI M) (i : Int32) : ir_gw M 96 100 i = ir_inb i 8 := q_gw0 h rfl rfl rfl i
theorem q_a97 (h : q_PI M) (i : Int32) : ir_ga M 97 106 i = ir_inb i 3 := q_ga0 h rfl rfl i
theorem q_w97 (h : q_PI M) (i : Int32) : ir_gw M 97 106 i = ir_inb i 3 := q_gw0 h rfl rfl rfl i
theorem q_a98 (h : q_PI M) (i : Int32) : ir_ga M 98 103 i = ir_inb i 3 := q_ga0 h rfl rfl i
theorem q_w98 (h : q_PI M) (i : Int32) : ir_gw M 98 103 i = ir_inb i 3 := q_gw0 h rfl rfl rfl i
theorem q_a99 (h : q_PI M) (i : Int32) : ir_ga M 99 107 i = ir_inb i 4 := q_ga0 h rfl rfl i
theorem q_w99 (h : q_PI M) (i : Int32) : ir_gw M 99 107 i = ir_inb i 4 := q_gw0 h rfl rfl rfl i
theorem q_k100 (h : q_PI M) : ir_gk M 100 4 = true := q_gk0 h rfl
theorem q_q100 (h : q_PI M) : ir_gq M 100 4 = true := q_gq0 h rfl rfl
theorem q_k101 (h : q_PI M) : ir_gk M 101 9 = true := q_gk0 h rfl
theorem q_q101 (h : q_PI M) : ir_gq M 101 9 = true := q_gq0 h rfl rfl
theorem q_a102 (h : q_PI M) (i : Int32) : ir_ga M 102 100 i = ir_inb i 8 := q_ga0 h rfl rfl i
theorem q_w102 (h : q_PI M) (i : Int32) : ir_gw M 102 100 i = ir_inb i 8 := q_gw0 h rfl rfl rfl i
theorem q_a103 (h : q_PI M) (i : Int32) : ir_ga M 103 100 i = ir_inb i 8 := q_ga0 h rfl rfl i
theorem q_w103 (h : q_PI M) (i : Int32) : ir_gw M 103 100 i = ir_inb i 8 := q_gw0 h rfl rfl rfl i
theorem q_k104 (h : q_PI M) : ir_gk M 104 1 = true := q_gk0 h rfl
theorem q_q104 (h : q_PI M) : ir_gq M 104 1 = true := q_gq0 h rfl rfl
theorem q_a105 (h : q_PI M) (i : Int32) : ir_ga M 105 100 i = ir_inb i 900 := q_ga0 h rfl rfl i
theorem q_w105 (h : q_PI M) (i : Int32) : ir_gw M 105 100 i = ir_inb i 900 := q_gw0 h rfl rfl rfl i
theorem q_a106 (h : q_PI M) (i : Int32) : ir_ga M 106 100 i = ir_inb i 64 := q_ga0 h rfl rfl i
theorem q_w106 (h : q_PI M) (i : Int32) : ir_gw M 106 100 i = ir_inb i 64 := q_gw0 h rfl rfl rfl i
theorem q_a107 (h : q_PI M) (i : Int32) : ir_ga M 107 100 i = ir_inb i 48 := q_ga0 h rfl rfl i
theorem q_w107 (h : q_PI M) (i : Int32) : ir_gw M 107 100 i = ir_inb i 48 := q_gw0 h rfl rfl rfl i
theorem q_a108 (h : q_PI M) (i : Int32) : ir_ga M 108 100 i = ir_inb i 64 := q_ga0 h rfl rfl i
theorem q_w108 (h : q_PI M) (i : Int32) : ir_gw M 108 100 i = ir_inb i 64 := q_gw0 h rfl rfl rfl i
theorem q_k109 (h : q_PI M) : ir_gk M 109 8 = true := q_gk0 h rfl
theorem q_q109 (h : q_PI M) : ir_gq M 109 8 = true := q_gq0 h rfl rfl
theorem q_a110 (h : q_PI M) (i : Int32) : ir_ga M 110 100 i = ir_inb i 8 := q_ga0 h rfl rfl i
theorem q_w110 (h : q_PI M) (i : Int32) : ir_gw M 110 100 i = ir_inb i 8 := q_gw0 h rfl rfl rfl i
theorem q_a111 (h : q_PI M) (i : Int32) : ir_ga M 111 100 i = ir_inb i 8 := q_ga0 h rfl rfl i
theorem q_w111 (h : q_PI M) (i : Int32) : ir_gw M 111 100 i = ir_inb i 8 := q_gw0 h rfl rfl rfl i
theorem q_a112 (h : q_PI M) (i : Int32) : ir_ga M 112 100 i = ir_inb i 8 := q_ga0 h rfl rfl i
theorem q_w112 (h : q_PI M) (i : Int32) : ir_gw M 112 100 i = ir_inb i 8 := q_gw0 h rfl rfl rfl i
theorem q_a113 (h : q_PI M) (i : Int32) : ir_ga M 113 100 i = ir_inb i 8 := q_ga0 h rfl rfl i
theorem q_w113 (h : q_PI M) (i : Int32) : ir_gw M 113 100 i = ir_inb i 8 := q_gw0 h rfl rfl rfl i
theorem q_a114 (h : q_PI M) (i : Int32) : ir_ga M 114 100 i = ir_inb i 8 := q_ga0 h rfl rfl i
theorem q_w114 (h : q_PI M) (i : Int32) : ir_gw M 114 100 i = ir_inb i 8 := q_gw0 h rfl rfl rfl i
theorem q_a115 (h : q_PI M) (i : Int32) : ir_ga M 115 104 i = ir_inb i 118 := q_ga0 h rfl rfl i
theorem q_w115 (h : q_PI M) (i : Int32) : ir_gw M 115 104 i = ir_inb i 118 := q_gw0 h rfl rfl rfl i
theorem q_k116 (h : q_PI M) : ir_gk M 116 0 = true := q_gk0 h rfl
theorem q_q116 (h : q_PI M) : ir_gq M 116 0 = true := q_gq0 h rfl rfl
theorem q_a117 (h : q_PI M) (i : Int32) : ir_ga M 117 100 i = ir_inb i 11 := q_ga0 h rfl rfl i
theorem q_w117 (h : q_PI M) (i : Int32) : ir_gw M 117 100 i = ir_inb i 11 := q_gw0 h rfl rfl rfl i
theorem q_a118 (h : q_PI M) (i : Int32) : ir_ga M 118 100 i = ir_inb i 8 := q_ga0 h rfl rfl i
theorem q_w118 (h : q_PI M) (i : Int32) : ir_gw M 118 100 i = ir_inb i 8 := q_gw0 h rfl rfl rfl i
theorem q_a119 (h : q_PI M) (i : Int32) : ir_ga M 119 100 i = ir_inb i 8 := q_ga0 h rfl rfl i
theorem q_w119 (h : q_PI M) (i : Int32) : ir_gw M 119 100 i = ir_inb i 8 := q_gw0 h rfl rfl rfl i
theorem q_a120 (h : q_PI M) (i : Int32) : ir_ga M 120 100 i = ir_inb i 8 := q_ga0 h rfl rfl i
theorem q_w120 (h : q_PI M) (i : Int32) : ir_gw M 120 100 i = ir_inb i 8 := q_gw0 h rfl rfl rfl i
theorem q_k121 (h : q_PI M) : ir_gk M 121 2 = true := q_gk0 h rfl
theorem q_q121 (h : q_PI M) : ir_gq M 121 2 = true := q_gq0 h rfl rfl
theorem q_a122 (h : q_PI M) (i : Int32) : ir_ga M 122 100 i = ir_inb i 8 := q_ga0 h rfl rfl i
theorem q_w122 (h : q_PI M) (i : Int32) : ir_gw M 122 100 i = ir_inb i 8 := q_gw0 h rfl rfl rfl i
theorem q_a123 (h : q_PI M) (i : Int32) : ir_ga M 123 100 i = ir_inb i 8 := q_ga0 h rfl rfl i
theorem q_w123 (h : q_PI M) (i : Int32) : ir_gw M 123 100 i = ir_inb i 8 := q_gw0 h rfl rfl rfl i
theorem q_a124 (h : q_PI M) (i : Int32) : ir_ga M 124 100 i = ir_inb i 64 := q_ga0 h rfl rfl i
theorem q_w124 (h : q_PI M) (i : Int32) : ir_gw M 124 100 i = ir_inb i 64 := q_gw0 h rfl rfl rfl i
theorem q_k125 (h : q_PI M) : ir_gk M 125 3 = true := q_gk0 h rfl
theorem q_q125 (h : q_PI M) : ir_gq M 125 3 = true := q_gq0 h rfl rfl
theorem q_a126 (h : q_PI M) (i : Int32) : ir_ga M 126 100 i = ir_inb i 3 := q_ga0 h rfl rfl i
theorem q_w126 (h : q_PI M) (i : Int32) : ir_gw M 126 100 i = ir_inb i 3 := q_gw0 h rfl rfl rfl i
theorem q_a127 (h : q_PI M) (i : Int32) : ir_ga M 127 100 i = ir_inb i 3 := q_ga0 h rfl rfl i
theorem q_w127 (h : q_PI M) (i : Int32) : ir_gw M 127 100 i = ir_inb i 3 := q_gw0 h rfl rfl rfl i
theorem q_a128 (h : q_PI M) (i : Int32) : ir_ga M 128 100 i = ir_inb i 3 := q_ga0 h rfl rfl i
theorem q_w128 (h : q_PI M) (i : Int32) : ir_gw M 128 100 i = ir_inb i 3 := q_gw0 h rfl rfl rfl i
theorem q_k129 (h : q_PI M) : ir_gk M 129 7 = true := q_gk0 h rfl
theorem q_q129 (h : q_PI M) : ir_gq M 129 7 = true := q_gq0 h rfl rfl
theorem q_a130 (h : q_PI M) (i : Int32) : ir_ga M 130 100 i = ir_inb i 256 := q_ga0 h rfl rfl i
theorem q_w130 (h : q_PI M) (i : Int32) : ir_gw M 130 100 i = ir_inb i 256 := q_gw0 h rfl rfl rfl i
theorem q_a131 (h : q_PI M) (i : Int32) : ir_ga M 131 100 i = ir_inb i 8 := q_ga0 h rfl rfl i
theorem q_w131 (h : q_PI M) (i : Int32) : ir_gw M 131 100 i = ir_inb i 8 := q_gw0 h rfl rfl rfl i
theorem q_a132 (h : q_PI M) (i : Int32) : ir_ga M 132 100 i = ir_inb i 11 := q_ga0 h rfl rfl i
theorem q_w132 (h : q_PI M) (i : Int32) : ir_gw M 132 100 i = ir_inb i 11 := q_gw0 h rfl rfl rfl i
theorem q_k133 (h : q_PI M) : ir_gk M 133 6 = true := q_gk0 h rfl
theorem q_q133 (h : q_PI M) : ir_gq M 133 6 = true := q_gq0 h rfl rfl
theorem q_a134 (h : q_PI M) (i : Int32) : ir_ga M 134 100 i = ir_inb i 8 := q_ga0 h rfl rfl i
theorem q_w134 (h : q_PI M) (i : Int32) : ir_gw M 134 100 i = ir_inb i 8 := q_gw0 h rfl rfl rfl i
theorem q_a135 (h : q_PI M) (i : Int32) : ir_ga M 135 100 i = ir_inb i 8 := q_ga0 h rfl rfl i
theorem q_w135 (h : q_PI M) (i : Int32) : ir_gw M 135 100 i = ir_inb i 8 := q_gw0 h rfl rfl rfl i
theorem q_a136 (h : q_PI M) (i : Int32) : ir_ga M 136 100 i = ir_inb i 8 := q_ga0 h rfl rfl i
theorem q_w136 (h : q_PI M) (i : Int32) : ir_gw M 136 100 i = ir_inb i 8 := q_gw0 h rfl rfl rfl i
theorem q_a137 (h : q_PI M) (i : Int32) : ir_ga M 137 103 i = ir_inb i 8 := q_ga0 h rfl rfl i
theorem q_w137 (h : q_PI M) (i : Int32) : ir_gw M 137 103 i = ir_inb i 8 := q_gw0 h rfl rfl rfl i
theorem q_a138 (h : q_PI M) (i : Int32) : ir_ga M 138 101 i = ir_inb i 64 := q_ga0 h rfl rfl i
theorem q_w138 (h : q_PI M) (i : Int32) : ir_gw M 138 101 i = ir_inb i 64 := q_gw0 h rfl rfl rfl i
theorem q_a139 (h : q_PI M) (i : Int32) : ir_ga M 139 101 i = ir_inb i 64 := q_ga0 h rfl rfl i
theorem q_w139 (h : q_PI M) (i : Int32) : ir_gw M 139 101 i = ir_inb i 64 := q_gw0 h rfl rfl rfl i
theorem q_k140 (h : q_PI M) : ir_gk M 140 5 = true := q_gk0 h rfl
theorem q_q140 (h : q_PI M) : ir_gq M 140 5 = true := q_gq0 h rfl rfl
theorem q_k141 (h : q_PI M) : ir_gk M 141 9 = true := q_gk0 h rfl
theorem q_q141 (h : q_PI M) : ir_gq M 141 9 = true := q_gq0 h rfl rfl
theorem q_a142 (h : q_PI M) (i : Int32) : ir_ga M 142 100 i = ir_inb i 8 := q_ga0 h rfl rfl i
theorem q_w142 (h : q_PI M) (i : Int32) : ir_gw M 142 100 i = ir_inb i 8 := q_gw0 h rfl rfl rfl i
theorem q_a143 (h : q_PI M) (i : Int32) : ir_ga M 143 100 i = ir_inb i 8 := q_ga0 h rfl rfl i
theorem q_w143 (h : q_PI M) (i : Int32) : ir_gw M 143 100 i = ir_inb i 8 := q_gw0 h rfl rfl rfl i
theorem q_k144 (h : q_PI M) : ir_gk M 144 1 = true := q_gk0 h rfl
theorem q_q144 (h : q_PI M) : ir_gq M 144 1 = true := q_gq0 h rfl rfl
theorem q_a145 (h : q_PI M) (i : Int32) : ir_ga M 145 100 i = ir_inb i 900 := q_ga0 h rfl rfl i
theorem q_w145 (h : q_PI M) (i : Int32) : ir_gw M 145 100 i = ir_inb i 900 := q_gw0 h rfl rfl rfl i
theorem q_a146 (h : q_PI M) (i : Int32) : ir_ga M 146 100 i = ir_inb i 64 := q_ga0 h rfl rfl i
theorem q_w146 (h : q_PI M) (i : Int32) : ir_gw M 146 100 i = ir_inb i 64 := q_gw0 h rfl rfl rfl i
theorem q_a147 (h : q_PI M) (i : Int32) : ir_ga M 147 100 i = ir_inb i 48 := q_ga0 h rfl rfl i
theorem q_w147 (h : q_PI M) (i : Int32) : ir_gw M 147 100 i = ir_inb i 48 := q_gw0 h rfl rfl rfl i
theorem q_a148 (h : q_PI M) (i : Int32) : ir_ga M 148 100 i = ir_inb i 64 := q_ga0 h rfl rfl i
theorem q_w148 (h : q_PI M) (i : Int32) : ir_gw M 148 100 i = ir_inb i 64 := q_gw0 h rfl rfl rfl i
theorem q_k149 (h : q_PI M) : ir_gk M 149 8 = true := q_gk0 h rfl
theorem q_q149 (h : q_PI M) : ir_gq M 149 8 = true := q_gq0 h rfl rfl
theorem q_a150 (h : q_PI M) (i : Int32) : ir_ga M 150 100 i = ir_inb i 8 := q_ga0 h rfl rfl i
theorem q_w150 (h : q_PI M) (i : Int32) : ir_gw M 150 100 i = ir_inb i 8 := q_gw0 h rfl rfl rfl i
theorem q_a151 (h : q_PI M) (i : Int32) : ir_ga M 151 100 i = ir_inb i 8 := q_ga0 h rfl rfl i
theorem q_w151 (h : q_PI M) (i : Int32) : ir_gw M 151 100 i = ir_inb i 8 := q_gw0 h rfl rfl rfl i
theorem q_a152 (h : q_PI M) (i : Int32) : ir_ga M 152 100 i = ir_inb i 8 := q_ga0 h rfl rfl i
theorem q_w152 (h : q_PI M) (i : Int32) : ir_gw M 152 100 i = ir_inb i 8 := q_gw0 h rfl rfl rfl i
theorem q_a153 (h : q_PI M) (i : Int32) : ir_ga M 153 100 i = ir_inb i 8 := q_ga0 h rfl rfl i
theorem q_w153 (h : q_PI M) (i : Int32) : ir_gw M 153 100 i = ir_inb i 8 := q_gw0 h rfl rfl rfl i
theorem q_a154 (h : q_PI M) (i : Int32) : ir_ga M 154 100 i = ir_inb i 8 := q_ga0 h rfl rfl i
theorem q_w154 (h : q_PI M) (i : Int32) : ir_gw M 154 100 i = ir_inb i 8 := q_gw0 h rfl rfl rfl i
theorem q_a155 (h : q_PI M) (i : Int32) : ir_ga M 155 105 i = ir_inb i 12 := q_ga0 h rfl rfl i
theorem q_w155 (h : q_PI M) (i : Int32) : ir_gw M 155 105 i = ir_inb i 12 := q_gw0 h rfl rfl rfl i
theorem q_k156 (h : q_PI M) : ir_gk M 156 8 = true := q_gk0 h rfl
theorem q_q156 (h : q_PI M) : ir_gq M 156 8 = true := q_gq0 h rfl rfl
theorem q_a157 (h : q_PI M) (i : Int32) : ir_ga M 157 100 i = ir_inb i 8 := q_ga0 h rfl rfl i
theorem q_w157 (h : q_PI M) (i : Int32) : ir_gw M 157 100 i = ir_inb i 8 := q_gw0 h rfl rfl rfl i
theorem q_a158 (h : q_PI M) (i : Int32) : ir_ga M 158 100 i = ir_inb i 8 := q_ga0 h rfl rfl i
theorem q_w158 (h : q_PI M) (i : Int32) : ir_gw M 158 100 i = ir_inb i 8 := q_gw0 h rfl rfl rfl i
theorem q_a159 (h : q_PI M) (i : Int32) : ir_ga M 159 100 i = ir_inb i 8 := q_ga0 h rfl rfl i
theorem q_w159 (h : q_PI M) (i : Int32) : ir_gw M 159 100 i = ir_inb i 8 := q_gw0 h rfl rfl rfl i
theorem q_a160 (h : q_PI M) (i : Int32) : ir_ga M 160 100 i = ir_inb i 8 := q_ga0 h rfl rfl i
theorem q_w160 (h : q_PI M) (i : Int32) : ir_gw M 160 100 i = ir_inb i 8 := q_gw0 h rfl rfl rfl i
theorem q_a161 (h : q_PI M) (i : Int32) : ir_ga M 161 100 i = ir_inb i 8 := q_ga0 h rfl rfl i
theorem q_w161 (h : q_PI M) (i : Int32) : ir_gw M 161 100 i = ir_inb i 8 := q_gw0 h rfl rfl rfl i
theorem q_k162 (h : q_PI M) : ir_gk M 162 8 = true := q_gk0 h rfl
theorem q_q162 (h : q_PI M) : ir_gq M 162 8 = true := q_gq0 h rfl rfl
theorem q_a163 (h : q_PI M) (i : Int32) : ir_ga M 163 100 i = ir_inb i 8 := q_ga0 h rfl rfl i
theorem q_w163 (h : q_PI M) (i : Int32) : ir_gw M 163 100 i = ir_inb i 8 := q_gw0 h rfl rfl rfl i
theorem q_a164 (h : q_PI M) (i : Int32) : ir_ga M 164 100 i = ir_inb i 8 := q_ga0 h rfl rfl i
theorem q_w164 (h : q_PI M) (i : Int32) : ir_gw M 164 100 i = ir_inb i 8 := q_gw0 h rfl rfl rfl i
theorem q_a165 (h : q_PI M) (i : Int32) : ir_ga M 165 100 i = ir_inb i 8 := q_ga0 h rfl rfl i
theorem q_w165 (h : q_PI M) (i : Int32) : ir_gw M 165 100 i = ir_inb i 8 := q_gw0 h rfl rfl rfl i
theorem q_a166 (h : q_PI M) (i : Int32) : ir_ga M 166 100 i = ir_inb i 8 := q_ga0 h rfl rfl i
theorem q_w166 (h : q_PI M) (i : Int32) : ir_gw M 166 100 i = ir_inb i 8 := q_gw0 h rfl rfl rfl i
theorem q_a167 (h : q_PI M) (i : Int32) : ir_ga M 167 100 i = ir_inb i 8 := q_ga0 h rfl rfl i
theorem q_w167 (h : q_PI M) (i : Int32) : ir_gw M 167 100 i = ir_inb i 8 := q_gw0 h rfl rfl rfl i
theorem q_k168 (h : q_PI M) : ir_gk M 168 8 = true := q_gk0 h rfl
theorem q_q168 (h : q_PI M) : ir_gq M 168 8 = true := q_gq0 h rfl rfl
theorem q_a169 (h : q_PI M) (i : Int32) : ir_ga M 169 100 i = ir_inb i 8 := q_ga0 h rfl rfl i
theorem q_w169 (h : q_PI M) (i : Int32) : ir_gw M 169 100 i = ir_inb i 8 := q_gw0 h rfl rfl rfl i
theorem q_a170 (h : q_PI M) (i : Int32) : ir_ga M 170 100 i = ir_inb i 8 := q_ga0 h rfl rfl i
theorem q_w170 (h : q_PI M) (i : Int32) : ir_gw M 170 100 i = ir_inb i 8 := q_gw0 h rfl rfl rfl i
theorem q_a171 (h : q_PI M) (i : Int32) : ir_ga M 171 100 i = ir_inb i 8 := q_ga0 h rfl rfl i
theorem q_w171 (h : q_PI M) (i : Int32) : ir_gw M 171 100 i = ir_inb i 8 := q_gw0 h rfl rfl rfl i
theorem q_a172 (h : q_PI M) (i : Int32) : ir_ga M 172 100 i = ir_inb i 8 := q_ga0 h rfl rfl i
theorem q_w172 (h : q_PI M) (i : Int32) : ir_gw M 172 100 i = ir_inb i 8 := q_gw0 h rfl rfl rfl i
theorem q_a173 (h : q_PI M) (i : Int32) : ir_ga M 173 100 i = ir_inb i 8 := q_ga0 h rfl rfl i
theorem q_w173 (h : q_PI M) (i : Int32) : ir_gw M 173 100 i = ir_inb i 8 := q_gw0 h rfl rfl rfl i
theorem q_k174 (h : q_PI M) : ir_gk M 174 8 = true := q_gk0 h rfl
theorem q_q174 (h : q_PI M) : ir_gq M 174 8 = true := q_gq0 h rfl rfl
theorem q_a175 (h : q_PI M) (i : Int32) : ir_ga M 175 100 i = ir_inb i 8 := q_ga0 h rfl rfl i
theorem q_w175 (h : q_PI M) (i : Int32) : ir_gw M 175 100 i = ir_inb i 8 := q_gw0 h rfl rfl rfl i
theorem q_a176 (h : q_PI M) (i : Int32) : ir_ga M 176 100 i = ir_inb i 8 := q_ga0 h rfl rfl i
theorem q_w176 (h : q_PI M) (i : Int32) : ir_gw M 176 100 i = ir_inb i 8 := q_gw0 h rfl rfl rfl i
theorem q_a177 (h : q_PI M) (i : Int32) : ir_ga M 177 100 i = ir_inb i 8 := q_ga0 h rfl rfl i
theorem q_w177 (h : q_PI M) (i : Int32) : ir_gw M 177 100 i = ir_inb i 8 := q_gw0 h rfl rfl rfl i
theorem q_a178 (h : q_PI M) (i : Int32) : ir_ga M 178 100 i = ir_inb i 8 := q_ga0 h rfl rfl i
theorem q_w178 (h : q_PI M) (i : Int32) : ir_gw M 178 100 i = ir_inb i 8 := q_gw0 h rfl rfl rfl i
theorem q_a179 (h : q_PI M) (i : Int32) : ir_ga M 179 100 i = ir_inb i 8 := q_ga0 h rfl rfl i
theorem q_w179 (h : q_PI M) (i : Int32) : ir_gw M 179 100 i = ir_inb i 8 := q_gw0 h rfl rfl rfl i
theorem q_k180 (h : q_PI M) : ir_gk M 180 8 = true := q_gk0 h rfl
theorem q_q180 (h : q_PI M) : ir_gq M 180 8 = true := q_gq0 h rfl rfl
theorem q_a181 (h : q_PI M) (i : Int32) : ir_ga M 181 100 i = ir_inb i 8 := q_ga0 h rfl rfl i
theorem q_w181 (h : q_PI M) (i : Int32) : ir_gw M 181 100 i = ir_inb i 8 := q_gw0 h rfl rfl rfl i
theorem q_a182 (h : q_PI M) (i : Int32) : ir_ga M 182 100 i = ir_inb i 8 := q_ga0 h rfl rfl i
theorem q_w182 (h : q_PI M) (i : Int32) : ir_gw M 182 100 i = ir_inb i 8 := q_gw0 h rfl rfl rfl i
theorem q_a183 (h : q_PI M) (i : Int32) : ir_ga M 183 100 i = ir_inb i 8 := q_ga0 h rfl rfl i
theorem q_w183 (h : q_PI M) (i : Int32) : ir_gw M 183 100 i = ir_inb i 8 := q_gw0 h rfl rfl rfl i
theorem q_a184 (h : q_PI M) (i : Int32) : ir_ga M 184 100 i = ir_inb i 8 := q_ga0 h rfl rfl i
theorem q_w184 (h : q_PI M) (i : Int32) : ir_gw M 184 100 i = ir_inb i 8 := q_gw0 h rfl rfl rfl i
theorem q_a185 (h : q_PI M) (i : Int32) : ir_ga M 185 100 i = ir_inb i 8 := q_ga0 h rfl rfl i
theorem q_w185 (h : q_PI M) (i : Int32) : ir_gw M 185 100 i = ir_inb i 8 := q_gw0 h rfl rfl rfl i
theorem q_k186 (h : q_PI M) : ir_gk M 186 8 = true := q_gk0 h rfl
theorem q_q186 (h : q_PI M) : ir_gq M 186 8 = true := q_gq0 h rfl rfl
theorem q_a187 (h : q_PI M) (i : Int32) : ir_ga M 187 100 i = ir_inb i 8 := q_ga0 h rfl rfl i
theorem q_w187 (h : q_PI M) (i : Int32) : ir_gw M 187 100 i = ir_inb i 8 := q_gw0 h rfl rfl rfl i
theorem q_a188 (h : q_PI M) (i : Int32) : ir_ga M 188 100 i = ir_inb i 8 := q_ga0 h rfl rfl i
theorem q_w188 (h : q_PI M) (i : Int32) : ir_gw M 188 100 i = ir_inb i 8 := q_gw0 h rfl rfl rfl i
theorem q_a189 (h : q_PI M) (i : Int32) : ir_ga M 189 100 i = ir_inb i 8 := q_ga0 h rfl rfl i
theorem q_w189 (h : q_PI M) (i : Int32) : ir_gw M 189 100 i = ir_inb i 8 := q_gw0 h rfl rfl rfl i
theorem q_a190 (h : q_PI M) (i : Int32) : ir_ga M 190 100 i = ir_inb i 8 := q_ga0 h rfl rfl i
theorem q_w190 (h : q_PI M) (i : Int32) : ir_gw M 190 100 i = ir_inb i 8 := q_gw0 h rfl rfl rfl i
theorem q_a191 (h : q_PI M) (i : Int32) : ir_ga M 191 100 i = ir_inb i 8 := q_ga0 h rfl rfl i
theorem q_w191 (h : q_PI M) (i : Int32) : ir_gw M 191 100 i = ir_inb i 8 := q_gw0 h rfl rfl rfl i
theorem q_k192 (h : q_PI M) : ir_gk M 192 8 = true := q_gk0 h rfl
theorem q_q192 (h : q_PI M) : ir_gq M 192 8 = true := q_gq0 h rfl rfl
theorem q_a193 (h : q_PI M) (i : Int32) : ir_ga M 193 100 i = ir_inb i 8 := q_ga0 h rfl rfl i
theorem q_w193 (h : q_PI M) (i : Int32) : ir_gw M 193 100 i = ir_inb i 8 := q_gw0 h rfl rfl rfl i
theorem q_a194 (h : q_PI M) (i : Int32) : ir_ga M 194 100 i = ir_inb i 8 := q_ga0 h rfl rfl i
theorem q_w194 (h : q_PI M) (i : Int32) : ir_gw M 194 100 i = ir_inb i 8 := q_gw0 h rfl rfl rfl i
theorem q_a195 (h : q_PI M) (i : Int32) : ir_ga M 195 100 i = ir_inb i 8 := q_ga0 h rfl rfl i
theorem q_w195 (h : q_PI M) (i : Int32) : ir_gw M 195 100 i = ir_inb i 8 := q_gw0 h rfl rfl rfl i
theorem q_a196 (h : q_PI M) (i : Int32) : ir_ga M 196 100 i = ir_inb i 8 := q_ga0 h rfl rfl i
theorem q_w196 (h : q_PI M) (i : Int32) : ir_gw M 196 100 i = ir_inb i 8 := q_gw0 h rfl rfl rfl i
theorem q_a197 (h : q_PI M) (i : Int32) : ir_ga M 197 100 i = ir_inb i 8 := q_ga0 h rfl rfl i
theorem q_w197 (h : q_PI M) (i : Int32) : ir_gw M 197 100 i = ir_inb i 8 := q_gw0 h rfl rfl rfl i
theorem q_k198 (h : q_PI M) : ir_gk M 198 8 = true := q_gk0 h rfl
theorem q_q198 (h : q_PI M) : ir_gq M 198 8 = true := q_gq0 h rfl rfl
theorem q_a199 (h : q_PI M) (i : Int32) : ir_ga M 199 100 i = ir_inb i 8 := q_ga0 h rfl rfl i
theorem q_w199 (h : q_PI M) (i : Int32) : ir_gw M 199 100 i = ir_inb i 8 := q_gw0 h rfl rfl rfl i
theorem q_a200 (h : q_PI M) (i : Int32) : ir_ga M 200 100 i = ir_inb i 8 := q_ga0 h rfl rfl i
theorem q_w200 (h : q_PI M) (i : Int32) : ir_gw M 200 100 i = ir_inb i 8 := q_gw0 h rfl rfl rfl i
theorem q_a201 (h : q_PI M) (i : Int32) : ir_ga M 201 100 i = ir_inb i 8 := q_ga0 h rfl rfl i
theorem q_w201 (h : q_PI M) (i : Int32) : ir_gw M 201 100 i = ir_inb i 8 := q_gw0 h rfl rfl rfl i
theorem q_a202 (h : q_PI M) (i : Int32) : ir_ga M 202 100 i = ir_inb i 8 := q_ga0 h rfl rfl i
theorem q_w202 (h : q_PI M) (i : Int32) : ir_gw M 202 100 i = ir_inb i 8 := q_gw0 h rfl rfl rfl i
theorem q_a203 (h : q_PI M) (i : Int32) : ir_ga M 203 100 i = ir_inb i 8 := q_ga0 h rfl rfl i
theorem q_w203 (h : q_PI M) (i : Int32) : ir_gw M 203 100 i = ir_inb i 8 := q_gw0 h rfl rfl rfl i
theorem q_k204 (h : q_PI M) : ir_gk M 204 8 = true := q_gk0 h rfl
theorem q_q204 (h : q_PI M) : ir_gq M 204 8 = true := q_gq0 h rfl rfl
theorem q_a205 (h : q_PI M) (i : Int32) : ir_ga M 205 100 i = ir_inb i 8 := q_ga0 h rfl rfl i
theorem q_w205 (h : q_PI M) (i : Int32) : ir_gw M 205 100 i = ir_inb i 8 := q_gw0 h rfl rfl rfl i
theorem q_a206 (h : q_PI M) (i : Int32) : ir_ga M 206 100 i = ir_inb i 8 := q_ga0 h rfl rfl i
theorem q_w206 (h : q_PI M) (i : Int32) : ir_gw M 206 100 i = ir_inb i 8 := q_gw0 h rfl rfl rfl i
theorem q_a207 (h : q_PI M) (i : Int32) : ir_ga M 207 100 i = ir_inb i 8 := q_ga0 h rfl rfl i
theorem q_w207 (h : q_PI M) (i : Int32) : ir_gw M 207 100 i = ir_inb i 8 := q_gw0 h rfl rfl rfl i
theorem q_a208 (h : q_PI M) (i : Int32) : ir_ga M 208 100 i = ir_inb i 8 := q_ga0 h rfl rfl i
theorem q_w208 (h : q_PI M) (i : Int32) : ir_gw M 208 100 i = ir_inb i 8 := q_gw0 h rfl rfl rfl i
theorem q_a209 (h : q_PI M) (i : Int32) : ir_ga M 209 100 i = ir_inb i 8 := q_ga0 h rfl rfl i
theorem q_w209 (h : q_PI M) (i : Int32) : ir_gw M 209 100 i = ir_inb i 8 := q_gw0 h rfl rfl rfl i
theorem q_k210 (h : q_PI M) : ir_gk M 210 8 = true := q_gk0 h rfl
theorem q_q210 (h : q_PI M) : ir_gq M 210 8 = true := q_gq0 h rfl rfl
theorem q_a211 (h : q_PI M) (i : Int32) : ir_ga M 211 100 i = ir_inb i 8 := q_ga0 h rfl rfl i
theorem q_w211 (h : q_PI M) (i : Int32) : ir_gw M 211 100 i = ir_inb i 8 := q_gw0 h rfl rfl rfl i
theorem q_a212 (h : q_PI M) (i : Int32) : ir_ga M 212 100 i = ir_inb i 8 := q_ga0 h rfl rfl i
theorem q_w212 (h : q_PI M) (i : Int32) : ir_gw M 212 100 i = ir_inb i 8 := q_gw0 h rfl rfl rfl i
theorem q_a213 (h : q_PI M) (i : Int32) : ir_ga M 213 100 i = ir_inb i 8 := q_ga0 h rfl rfl i
theorem q_w213 (h : q_PI M) (i : Int32) : ir_gw M 213 100 i = ir_inb i 8 := q_gw0 h rfl rfl rfl i
theorem q_a214 (h : q_PI M) (i : Int32) : ir_ga M 214 100 i = ir_inb i 8 := q_ga0 h rfl rfl i
theorem q_w214 (h : q_PI M) (i : Int32) : ir_gw M 214 100 i = ir_inb i 8 := q_gw0 h rfl rfl rfl i
theorem q_a215 (h : q_PI M) (i : Int32) : ir_ga M 215 100 i = ir_inb i 8 := q_ga0 h rfl rfl i
theorem q_w215 (h : q_PI M) (i : Int32) : ir_gw M 215 100 i = ir_inb i 8 := q_gw0 h rfl rfl rfl i
theorem q_k216 (h : q_PI M) : ir_gk M 216 8 = true := q_gk0 h rfl
theorem q_q216 (h : q_PI M) : ir_gq M 216 8 = true := q_gq0 h rfl rfl
theorem q_a217 (h : q_PI M) (i : Int32) : ir_ga M 217 100 i = ir_inb i 8 := q_ga0 h rfl rfl i
theorem q_w217 (h : q_PI M) (i : Int32) : ir_gw M 217 100 i = ir_inb i 8 := q_gw0 h rfl rfl rfl i
theorem q_a218 (h : q_PI M) (i : Int32) : ir_ga M 218 100 i = ir_inb i 8 := q_ga0 h rfl rfl i
theorem q_w218 (h : q_PI M) (i : Int32) : ir_gw M 218 100 i = ir_inb i 8 := q_gw0 h rfl rfl rfl i
theorem q_a219 (h : q_PI M) (i : Int32) : ir_ga M 219 100 i = ir_inb i 8 := q_ga0 h rfl rfl i
theorem q_w219 (h : q_PI M) (i : Int32) : ir_gw M 219 100 i = ir_inb i 8 := q_gw0 h rfl rfl rfl i
theorem q_a220 (h : q_PI M) (i : Int32) : ir_ga M 220 100 i = ir_inb i 8 := q_ga0 h rfl rfl i
theorem q_w220 (h : q_PI M) (i : Int32) : ir_gw M 220 100 i = ir_inb i 8 := q_gw0 h rfl rfl rfl i
theorem q_a221 (h : q_PI M) (i : Int32) : ir_ga M 221 100 i = ir_inb i 8 := q_ga0 h rfl rfl i
theorem q_w221 (h : q_PI M) (i : Int32) : ir_gw M 221 100 i = ir_inb i 8 := q_gw0 h rfl rfl rfl i
theorem q_k222 (h : q_PI M) : ir_gk M 222 8 = true := q_gk0 h rfl
theorem q_q222 (h : q_PI M) : ir_gq M 222 8 = true := q_gq0 h rfl rfl
theorem q_a223 (h : q_PI M) (i : Int32) : ir_ga M 223 100 i = ir_inb i 8 := q_ga0 h rfl rfl i
theorem q_w223 (h : q_PI M) (i : Int32) : ir_gw M 223 100 i = ir_inb i 8 := q_gw0 h rfl rfl rfl i
theorem q_a224 (h : q_PI M) (i : Int32) : ir_ga M 224 100 i = ir_inb i 8 := q_ga0 h rfl rfl i
theorem q_w224 (h : q_PI M) (i : Int32) : ir_gw M 224 100 i = ir_inb i 8 := q_gw0 h rfl rfl rfl i
theorem q_a225 (h : q_PI M) (i : Int32) : ir_ga M 225 100 i = ir_inb i 8 := q_ga0 h rfl rfl i
theorem q_w225 (h : q_PI M) (i : Int32) : ir_gw M 225 100 i = ir_inb i 8 := q_gw0 h rfl rfl rfl i
theorem q_a226 (h : q_PI M) (i : Int32) : ir_ga M 226 100 i = ir_inb i 8 := q_ga0 h rfl rfl i
theorem q_w226 (h : q_PI M) (i : Int32) : ir_gw M 226 100 i = ir_inb i 8 := q_gw0 h rfl rfl rfl i
theorem q_a227 (h : q_PI M) (i : Int32) : ir_ga M 227 100 i = ir_inb i 8 := q_ga0 h rfl rfl i
theorem q_w227 (h : q_PI M) (i : Int32) : ir_gw M 227 100 i = ir_inb i 8 := q_gw0 h rfl rfl rfl i
theorem q_k228 (h : q_PI M) : ir_gk M 228 5 = true := q_gk0 h rfl
theorem q_q228 (h : q_PI M) : ir_gq M 228 5 = true := q_gq0 h rfl rfl
theorem q_k229 (h : q_PI M) : ir_gk M 229 9 = true := q_gk0 h rfl
theorem q_q229 (h : q_PI M) : ir_gq M 229 9 = true := q_gq0 h rfl rfl
theorem q_a230 (h : q_PI M) (i : Int32) : ir_ga M 230 100 i = ir_inb i 8 := q_ga0 h rfl rfl i
theorem q_w230 (h : q_PI M) (i : Int32) : ir_gw M 230 100 i = ir_inb i 8 := q_gw0 h rfl rfl rfl i
theorem q_a231 (h : q_PI M) (i : Int32) : ir_ga M 231 100 i = ir_inb i 8 := q_ga0 h rfl rfl i
theorem q_w231 (h : q_PI M) (i : Int32) : ir_gw M 231 100 i = ir_inb i 8 := q_gw0 h rfl rfl rfl i
theorem q_k232 (h : q_PI M) : ir_gk M 232 1 = true := q_gk0 h rfl
theorem q_q232 (h : q_PI M) : ir_gq M 232 1 = true := q_gq0 h rfl rfl
theorem q_a233 (h : q_PI M) (i : Int32) : ir_ga M 233 100 i = ir_inb i 900 := q_ga0 h rfl rfl i
theorem q_w233 (h : q_PI M) (i : Int32) : ir_gw M 233 100 i = ir_inb i 900 := q_gw0 h rfl rfl rfl i
theorem q_a234 (h : q_PI M) (i : Int32) : ir_ga M 234 100 i = ir_inb i 64 := q_ga0 h rfl rfl i
theorem q_w234 (h : q_PI M) (i : Int32) : ir_gw M 234 100 i = ir_inb i 64 := q_gw0 h rfl rfl rfl i
theorem q_a235 (h : q_PI M) (i : Int32) : ir_ga M 235 100 i = ir_inb i 48 := q_ga0 h rfl rfl i
theorem q_w235 (h : q_PI M) (i : Int32) : ir_gw M 235 100 i = ir_inb i 48 := q_gw0 h rfl rfl rfl i
theorem q_a236 (h : q_PI M) (i : Int32) : ir_ga M 236 100 i = ir_inb i 64 := q_ga0 h rfl rfl i
theorem q_w236 (h : q_PI M) (i : Int32) : ir_gw M 236 100 i = ir_inb i 64 := q_gw0 h rfl rfl rfl i
theorem q_k237 (h : q_PI M) : ir_gk M 237 8 = true := q_gk0 h rfl
theorem q_q237 (h : q_PI M) : ir_gq M 237 8 = true := q_gq0 h rfl rfl
theorem q_a238 (h : q_PI M) (i : Int32) : ir_ga M 238 100 i = ir_inb i 8 := q_ga0 h rfl rfl i
theorem q_w238 (h : q_PI M) (i : Int32) : ir_gw M 238 100 i = ir_inb i 8 := q_gw0 h rfl rfl rfl i
theorem q_a239 (h : q_PI M) (i : Int32) : ir_ga M 239 100 i = ir_inb i 8 := q_ga0 h rfl rfl i
theorem q_w239 (h : q_PI M) (i : Int32) : ir_gw M 239 100 i = ir_inb i 8 := q_gw0 h rfl rfl rfl i
theorem q_a240 (h : q_PI M) (i : Int32) : ir_ga M 240 100 i = ir_inb i 8 := q_ga0 h rfl rfl i
theorem q_w240 (h : q_PI M) (i : Int32) : ir_gw M 240 100 i = ir_inb i 8 := q_gw0 h rfl rfl rfl i
theorem q_a241 (h : q_PI M) (i : Int32) : ir_ga M 241 100 i = ir_inb i 8 := q_ga0 h rfl rfl i
theorem q_w241 (h : q_PI M) (i : Int32) : ir_gw M 241 100 i = ir_inb i 8 := q_gw0 h rfl rfl rfl i
theorem q_a242 (h : q_PI M) (i : Int32) : ir_ga M 242 100 i = ir_inb i 8 := q_ga0 h rfl rfl i
theorem q_w242 (h : q_PI M) (i : Int32) : ir_gw M 242 100 i = ir_inb i 8 := q_gw0 h rfl rfl rfl i
theorem q_a243 (h : q_PI M) (i : Int32) : ir_ga M 243 105 i = ir_inb i 12 := q_ga0 h rfl rfl i
theorem q_w243 (h : q_PI M) (i : Int32) : ir_gw M 243 105 i = ir_inb i 12 := q_gw0 h rfl rfl rfl i
theorem q_k244 (h : q_PI M) : ir_gk M 244 8 = true := q_gk0 h rfl
theorem q_q244 (h : q_PI M) : ir_gq M 244 8 = true := q_gq0 h rfl rfl
theorem q_a245 (h : q_PI M) (i : Int32) : ir_ga M 245 100 i = ir_inb i 8 := q_ga0 h rfl rfl i
theorem q_w245 (h : q_PI M) (i : Int32) : ir_gw M 245 100 i = ir_inb i 8 := q_gw0 h rfl rfl rfl i
theorem q_a246 (h : q_PI M) (i : Int32) : ir_ga M 246 100 i = ir_inb i 8 := q_ga0 h rfl rfl i
theorem q_w246 (h : q_PI M) (i : Int32) : ir_gw M 246 100 i = ir_inb i 8 := q_gw0 h rfl rfl rfl i
theorem q_a247 (h : q_PI M) (i : Int32) : ir_ga M 247 100 i = ir_inb i 8 := q_ga0 h rfl rfl i
theorem q_w247 (h : q_PI M) (i : Int32) : ir_gw M 247 100 i = ir_inb i 8 := q_gw0 h rfl rfl rfl i
theorem q_a248 (h : q_PI M) (i : Int32) : ir_ga M 248 100 i = ir_inb i 8 := q_ga0 h rfl rfl i
theorem q_w248 (h : q_PI M) (i : Int32) : ir_gw M 248 100 i = ir_inb i 8 := q_gw0 h rfl rfl rfl i
theorem q_a249 (h : q_PI M) (i : Int32) : ir_ga M 249 100 i = ir_inb i 8 := q_ga0 h rfl rfl i
theorem q_w249 (h : q_PI M) (i : Int32) : ir_gw M 249 100 i = ir_inb i 8 := q_gw0 h rfl rfl rfl i
theorem q_k250 (h : q_PI M) : ir_gk M 250 8 = true := q_gk0 h rfl
theorem q_q250 (h : q_PI M) : ir_gq M 250 8 = true := q_gq0 h rfl rfl
theorem q_a251 (h : q_PI M) (i : Int32) : ir_ga M 251 100 i = ir_inb i 8 := q_ga0 h rfl rfl i
theorem q_w251 (h : q_PI M) (i : Int32) : ir_gw M 251 100 i = ir_inb i 8 := q_gw0 h rfl rfl rfl i
theorem q_a252 (h : q_PI M) (i : Int32) : ir_ga M 252 100 i = ir_inb i 8 := q_ga0 h rfl rfl i
theorem q_w252 (h : q_PI M) (i : Int32) : ir_gw M 252 100 i = ir_inb i 8 := q_gw0 h rfl rfl rfl i
theorem q_a253 (h : q_PI M) (i : Int32) : ir_ga M 253 100 i = ir_inb i 8 := q_ga0 h rfl rfl i
theorem q_w253 (h : q_PI M) (i : Int32) : ir_gw M 253 100 i = ir_inb i 8 := q_gw0 h rfl rfl rfl i
theorem q_a254 (h : q_PI M) (i : Int32) : ir_ga M 254 100 i = ir_inb i 8 := q_ga0 h rfl rfl i
theorem q_w254 (h : q_PI M) (i : Int32) : ir_gw M 254 100 i = ir_inb i 8 := q_gw0 h rfl rfl rfl i
theorem q_a255 (h : q_PI M) (i : Int32) : ir_ga M 255 100 i = ir_inb i 8 := q_ga0 h rfl rfl i
theorem q_w255 (h : q_PI M) (i : Int32) : ir_gw M 255 100 i = ir_inb i 8 := q_gw0 h rfl rfl rfl i
theorem q_k256 (h : q_PI M) : ir_gk M 256 8 = true := q_gk0 h rfl
theorem q_q256 (h : q_PI M) : ir_gq M 256 8 = true := q_gq0 h rfl rfl
theorem q_a257 (h : q_PI M) (i : Int32) : ir_ga M 257 100 i = ir_inb i 8 := q_ga0 h rfl rfl i
theorem q_w257 (h : q_PI M) (i : Int32) : ir_gw M 257 100 i = ir_inb i 8 := q_gw0 h rfl rfl rfl i
theorem q_a258 (h : q_PI M) (i : Int32) : ir_ga M 258 100 i = ir_inb i 8 := q_ga0 h rfl rfl i
theorem q_w258 (h : q_PI M) (i : Int32) : ir_gw M 258 100 i = ir_inb i 8 := q_gw0 h rfl rfl rfl i
theorem q_a259 (h : q_PI M) (i : Int32) : ir_ga M 259 100 i = ir_inb i 8 := q_ga0 h rfl rfl i
theorem q_w259 (h : q_PI M) (i : Int32) : ir_gw M 259 100 i = ir_inb i 8 := q_gw0 h rfl rfl rfl i
theorem q_a260 (h : q_PI M) (i : Int32) : ir_ga M 260 100 i = ir_inb i 8 := q_ga0 h rfl rfl i
theorem q_w260 (h : q_PI M) (i : Int32) : ir_gw M 260 100 i = ir_inb i 8 := q_gw0 h rfl rfl rfl i
theorem q_a261 (h : q_PI M) (i : Int32) : ir_ga M 261 100 i = ir_inb i 8 := q_ga0 h rfl rfl i
theorem q_w261 (h : q_PI M) (i : Int32) : ir_gw M 261 100 i = ir_inb i 8 := q_gw0 h rfl rfl rfl i
theorem q_k262 (h : q_PI M) : ir_gk M 262 8 = true := q_gk0 h rfl
theorem q_q262 (h : q_PI M) : ir_gq M 262 8 = true := q_gq0 h rfl rfl
theorem q_a263 (h : q_PI M) (i : Int32) : ir_ga M 263 100 i = ir_inb i 8 := q_ga0 h rfl rfl i
theorem q_w263 (h : q_PI M) (i : Int32) : ir_gw M 263 100 i = ir_inb i 8 := q_gw0 h rfl rfl rfl i
theorem q_a264 (h : q_PI M) (i : Int32) : ir_ga M 264 100 i = ir_inb i 8 := q_ga0 h rfl rfl i
theorem q_w264 (h : q_PI M) (i : Int32) : ir_gw M 264 100 i = ir_inb i 8 := q_gw0 h rfl rfl rfl i
theorem q_a265 (h : q_PI M) (i : Int32) : ir_ga M 265 100 i = ir_inb i 8 := q_ga0 h rfl rfl i
theorem q_w265 (h : q_PI M) (i : Int32) : ir_gw M 265 100 i = ir_inb i 8 := q_gw0 h rfl rfl rfl i
theorem q_a266 (h : q_PI M) (i : Int32) : ir_ga M 266 100 i = ir_inb i 8 := q_ga0 h rfl rfl i
theorem q_w266 (h : q_PI M) (i : Int32) : ir_gw M 266 100 i = ir_inb i 8 := q_gw0 h rfl rfl rfl i
theorem q_a267 (h : q_PI M) (i : Int32) : ir_ga M 267 100 i = ir_inb i 8 := q_ga0 h rfl rfl i
theorem q_w267 (h : q_PI M) (i : Int32) : ir_gw M 267 100 i = ir_inb i 8 := q_gw0 h rfl rfl rfl i
theorem q_k268 (h : q_PI M) : ir_gk M 268 8 = true := q_gk0 h rfl
theorem q_q268 (h : q_PI M) : ir_gq M 268 8 = true := q_gq0 h rfl rfl
theorem q_a269 (h : q_PI M) (i : Int32) : ir_ga M 269 100 i = ir_inb i 8 := q_ga0 h rfl rfl i
theorem q_w269 (h : q_PI M) (i : Int32) : ir_gw M 269 100 i = ir_inb i 8 := q_gw0 h rfl rfl rfl i
theorem q_a270 (h : q_PI M) (i : Int32) : ir_ga M 270 100 i = ir_inb i 8 := q_ga0 h rfl rfl i
theorem q_w270 (h : q_PI M) (i : Int32) : ir_gw M 270 100 i = ir_inb i 8 := q_gw0 h rfl rfl rfl i
theorem q_a271 (h : q_PI M) (i : Int32) : ir_ga M 271 100 i = ir_inb i 8 := q_ga0 h rfl rfl i
theorem q_w271 (h : q_PI M) (i : Int32) : ir_gw M 271 100 i = ir_inb i 8 := q_gw0 h rfl rfl rfl i
theorem q_a272 (h : q_PI M) (i : Int32) : ir_ga M 272 100 i = ir_inb i 8 := q_ga0 h rfl rfl i
theorem q_w272 (h : q_PI M) (i : Int32) : ir_gw M 272 100 i = ir_inb i 8 := q_gw0 h rfl rfl rfl i
theorem q_a273 (h : q_PI M) (i : Int32) : ir_ga M 273 100 i = ir_inb i 8 := q_ga0 h rfl rfl i
theorem q_w273 (h : q_PI M) (i : Int32) : ir_gw M 273 100 i = ir_inb i 8 := q_gw0 h rfl rfl rfl i
theorem q_k274 (h : q_PI M) : ir_gk M 274 8 = true := q_gk0 h rfl
theorem q_q274 (h : q_PI M) : ir_gq M 274 8 = true := q_gq0 h rfl rfl
theorem q_a275 (h : q_PI M) (i : Int32) : ir_ga M 275 100 i = ir_inb i 8 := q_ga0 h rfl rfl i
theorem q_w275 (h : q_PI M) (i : Int32) : ir_gw M 275 100 i = ir_inb i 8 := q_gw0 h rfl rfl rfl i
theorem q_a276 (h : q_PI M) (i : Int32) : ir_ga M 276 100 i = ir_inb i 8 := q_ga0 h rfl rfl i
theorem q_w276 (h : q_PI M) (i : Int32) : ir_gw M 276 100 i = ir_inb i 8 := q_gw0 h rfl rfl rfl i
theorem q_a277 (h : q_PI M) (i : Int32) : ir_ga M 277 100 i = ir_inb i 8 := q_ga0 h rfl rfl i
theorem q_w277 (h : q_PI M) (i : Int32) : ir_gw M 277 100 i = ir_inb i 8 := q_gw0 h rfl rfl rfl i
theorem q_a278 (h : q_PI M) (i : Int32) : ir_ga M 278 100 i = ir_inb i 8 := q_ga0 h rfl rfl i
theorem q_w278 (h : q_PI M) (i : Int32) : ir_gw M 278 100 i = ir_inb i 8 := q_gw0 h rfl rfl rfl i
theorem q_a279 (h : q_PI M) (i : Int32) : ir_ga M 279 100 i = ir_inb i 8 := q_ga0 h rfl rfl i
theorem q_w279 (h : q_PI M) (i : Int32) : ir_gw M 279 100 i = ir_inb i 8 := q_gw0 h rfl rfl rfl i
theorem q_k280 (h : q_PI M) : ir_gk M 280 8 = true := q_gk0 h rfl
theorem q_q280 (h : q_PI M) : ir_gq M 280 8 = true := q_gq0 h rfl rfl
theorem q_a281 (h : q_PI M) (i : Int32) : ir_ga M 281 100 i = ir_inb i 8 := q_ga0 h rfl rfl i
theorem q_w281 (h : q_PI M) (i : Int32) : ir_gw M 281 100 i = ir_inb i 8 := q_gw0 h rfl rfl rfl i
theorem q_a282 (h : q_PI M) (i : Int32) : ir_ga M 282 100 i = ir_inb i 8 := q_ga0 h rfl rfl i
theorem q_w282 (h : q_PI M) (i : Int32) : ir_gw M 282 100 i = ir_inb i 8 := q_gw0 h rfl rfl rfl i
theorem q_a283 (h : q_PI M) (i : Int32) : ir_ga M 283 100 i = ir_inb i 8 := q_ga0 h rfl rfl i
theorem q_w283 (h : q_PI M) (i : Int32) : ir_gw M 283 100 i = ir_inb i 8 := q_gw0 h rfl rfl rfl i
theorem q_a284 (h : q_PI M) (i : Int32) : ir_ga M 284 100 i = ir_inb i 8 := q_ga0 h rfl rfl i
theorem q_w284 (h : q_PI M) (i : Int32) : ir_gw M 284 100 i = ir_inb i 8 := q_gw0 h rfl rfl rfl i
theorem q_a285 (h : q_PI M) (i : Int32) : ir_ga M 285 100 i = ir_inb i 8 := q_ga0 h rfl rfl i
theorem q_w285 (h : q_PI M) (i : Int32) : ir_gw M 285 100 i = ir_inb i 8 := q_gw0 h rfl rfl rfl i
theorem q_k286 (h : q_PI M) : ir_gk M 286 8 = true := q_gk0 h rfl
theorem q_q286 (h : q_PI M) : ir_gq M 286 8 = true := q_gq0 h rfl rfl
theorem q_a287 (h : q_PI M) (i : Int32) : ir_ga M 287 100 i = ir_inb i 8 := q_ga0 h rfl rfl i
theorem q_w287 (h : q_PI M) (i : Int32) : ir_gw M 287 100 i = ir_inb i 8 := q_gw0 h rfl rfl rfl i
theorem q_a288 (h : q_PI M) (i : Int32) : ir_ga M 288 100 i = ir_inb i 8 := q_ga0 h rfl rfl i
theorem q_w288 (h : q_PI M) (i : Int32) : ir_gw M 288 100 i = ir_inb i 8 := q_gw0 h rfl rfl rfl i
theorem q_a289 (h : q_PI M) (i : Int32) : ir_ga M 289 100 i = ir_inb i 8 := q_ga0 h rfl rfl i
theorem q_w289 (h : q_PI M) (i : Int32) : ir_gw M 289 100 i = ir_inb i 8 := q_gw0 h rfl rfl rfl i
theorem q_a290 (h : q_PI M) (i : Int32) : ir_ga M 290 100 i = ir_inb i 8 := q_ga0 h rfl rfl i
theorem q_w290 (h : q_PI M) (i : Int32) : ir_gw M 290 100 i = ir_inb i 8 := q_gw0 h rfl rfl rfl i
theorem q_a291 (h : q_PI M) (i : Int32) : ir_ga M 291 100 i = ir_inb i 8 := q_ga0 h rfl rfl i
theorem q_w291 (h : q_PI M) (i : Int32) : ir_gw M 291 100 i = ir_inb i 8 := q_gw0 h rfl rfl rfl i
theorem q_k292 (h : q_PI M) : ir_gk M 292 8 = true := q_gk0 h rfl
theorem q_q292 (h : q_PI M) : ir_gq M 292 8 = true := q_gq0 h rfl rfl
theorem q_a293 (h : q_PI M) (i : Int32) : ir_ga M 293 100 i = ir_inb i 8 := q_ga0 h rfl rfl i
theorem q_w293 (h : q_PI M) (i : Int32) : ir_gw M 293 100 i = ir_inb i 8 := q_gw0 h rfl rfl rfl i
theorem q_a294 (h : q_PI M) (i : Int32) : ir_ga M 294 100 i = ir_inb i 8 := q_ga0 h rfl rfl i
theorem q_w294 (h : q_PI M) (i : Int32) : ir_gw M 294 100 i = ir_inb i 8 := q_gw0 h rfl rfl rfl i
theorem q_a295 (h : q_PI M) (i : Int32) : ir_ga M 295 100 i = ir_inb i 8 := q_ga0 h rfl rfl i
theorem q_w295 (h : q_PI M) (i : Int32) : ir_gw M 295 100 i = ir_inb i 8 := q_gw0 h rfl rfl rfl i
theorem q_a296 (h : q_PI M) (i : Int32) : ir_ga M 296 100 i = ir_inb i 8 := q_ga0 h rfl rfl i
theorem q_w296 (h : q_PI M) (i : Int32) : ir_gw M 296 100 i = ir_inb i 8 := q_gw0 h rfl rfl rfl i
theorem q_a297 (h : q_PI M) (i : Int32) : ir_ga M 297 100 i = ir_inb i 8 := q_ga0 h rfl rfl i
theorem q_w297 (h : q_PI M) (i : Int32) : ir_gw M 297 100 i = ir_inb i 8 := q_gw0 h rfl rfl rfl i
theorem q_k298 (h : q_PI M) : ir_gk M 298 8 = true := q_gk0 h rfl
theorem q_q298 (h : q_PI M) : ir_gq M 298 8 = true := q_gq0 h rfl rfl
theorem q_a299 (h : q_PI M) (i : Int32) : ir_ga M 299 100 i = ir_inb i 8 := q_ga0 h rfl rfl i
theorem q_w299 (h : q_PI M) (i : Int32) : ir_gw M 299 100 i = ir_inb i 8 := q_gw0 h rfl rfl rfl i
theorem q_a300 (h : q_PI M) (i : Int32) : ir_ga M 300 100 i = ir_inb i 8 := q_ga0 h rfl rfl i
theorem q_w300 (h : q_PI M) (i : Int32) : ir_gw M 300 100 i = ir_inb i 8 := q_gw0 h rfl rfl rfl i
theorem q_a301 (h : q_PI M) (i : Int32) : ir_ga M 301 100 i = ir_inb i 8 := q_ga0 h rfl rfl i
theorem q_w301 (h : q_PI M) (i : Int32) : ir_gw M 301 100 i = ir_inb i 8 := q_gw0 h rfl rfl rfl i
theorem q_a302 (h : q_PI M) (i : Int32) : ir_ga M 302 100 i = ir_inb i 8 := q_ga0 h rfl rfl i
theorem q_w302 (h : q_PI M) (i : Int32) : ir_gw M 302 100 i = ir_inb i 8 := q_gw0 h rfl rfl rfl i
theorem q_a303 (h : q_PI M) (i : Int32) : ir_ga M 303 100 i = ir_inb i 8 := q_ga0 h rfl rfl i
theorem q_w303 (h : q_PI M) (i : Int32) : ir_gw M 303 100 i = ir_inb i 8 := q_gw0 h rfl rfl rfl i
theorem q_k304 (h : q_PI M) : ir_gk M 304 8 = true := q_gk0 h rfl
theorem q_q304 (h : q_PI M) : ir_gq M 304 8 = true := q_gq0 h rfl rfl
theorem q_a305 (h : q_PI M) (i : Int32) : ir_ga M 305 100 i = ir_inb i 8 := q_ga0 h rfl rfl i
theorem q_w305 (h : q_PI M) (i : Int32) : ir_gw M 305 100 i = ir_inb i 8 := q_gw0 h rfl rfl rfl i
theorem q_a306 (h : q_PI M) (i : Int32) : ir_ga M 306 100 i = ir_inb i 8 := q_ga0 h rfl rfl i
theorem q_w306 (h : q_PI M) (i : Int32) : ir_gw M 306 100 i = ir_inb i 8 := q_gw0 h rfl rfl rfl i
theorem q_a307 (h : q_PI M) (i : Int32) : ir_ga M 307 100 i = ir_inb i 8 := q_ga0 h rfl rfl i
theorem q_w307 (h : q_PI M) (i : Int32) : ir_gw M 307 100 i = ir_inb i 8 := q_gw0 h rfl rfl rfl i
theorem q_a308 (h : q_PI M) (i : Int32) : ir_ga M 308 100 i = ir_inb i 8 := q_ga0 h rfl rfl i
theorem q_w308 (h : q_PI M) (i : Int32) : ir_gw M 308 100 i = ir_inb i 8 := q_gw0 h rfl rfl rfl i
theorem q_a309 (h : q_PI M) (i : Int32) : ir_ga M 309 100 i = ir_inb i 8 := q_ga0 h rfl rfl i
theorem q_w309 (h : q_PI M) (i : Int32) : ir_gw M 309 100 i = ir_inb i 8 := q_gw0 h rfl rfl rfl i
theorem q_k310 (h : q_PI M) : ir_gk M 310 8 = true := q_gk0 h rfl
theorem q_q310 (h : q_PI M) : ir_gq M 310 8 = true := q_gq0 h rfl rfl
theorem q_a311 (h : q_PI M) (i : Int32) : ir_ga M 311 100 i = ir_inb i 8 := q_ga0 h rfl rfl i
theorem q_w311 (h : q_PI M) (i : Int32) : ir_gw M 311 100 i = ir_inb i 8 := q_gw0 h rfl rfl rfl i
theorem q_a312 (h : q_PI M) (i : Int32) : ir_ga M 312 100 i = ir_inb i 8 := q_ga0 h rfl rfl i
theorem q_w312 (h : q_PI M) (i : Int32) : ir_gw M 312 100 i = ir_inb i 8 := q_gw0 h rfl rfl rfl i
theorem q_a313 (h : q_PI M) (i : Int32) : ir_ga M 313 100 i = ir_inb i 8 := q_ga0 h rfl rfl i
theorem q_w313 (h : q_PI M) (i : Int32) : ir_gw M 313 100 i = ir_inb i 8 := q_gw0 h rfl rfl rfl i
theorem q_a314 (h : q_PI M) (i : Int32) : ir_ga M 314 100 i = ir_inb i 8 := q_ga0 h rfl rfl i
theorem q_w314 (h : q_PI M) (i : Int32) : ir_gw M 314 100 i = ir_inb i 8 := q_gw0 h rfl rfl rfl i
theorem q_a315 (h : q_PI M) (i : Int32) : ir_ga M 315 100 i = ir_inb i 8 := q_ga0 h rfl rfl i
theorem q_w315 (h : q_PI M) (i : Int32) : ir_gw M 315 100 i = ir_inb i 8 := q_gw0 h rfl rfl rfl i
theorem q_k316 (h : q_PI M) : ir_gk M 316 5 = true := q_gk0 h rfl
theorem q_q316 (h : q_PI M) : ir_gq M 316 5 = true := q_gq0 h rfl rfl
theorem q_k317 (h : q_PI M) : ir_gk M 317 9 = true := q_gk0 h rfl
theorem q_q317 (h : q_PI M) : ir_gq M 317 9 = true := q_gq0 h rfl rfl
theorem q_a318 (h : q_PI M) (i : Int32) : ir_ga M 318 100 i = ir_inb i 8 := q_ga0 h rfl rfl i
theorem q_w318 (h : q_PI M) (i : Int32) : ir_gw M 318 100 i = ir_inb i 8 := q_gw0 h rfl rfl rfl i
theorem q_a319 (h : q_PI M) (i : Int32) : ir_ga M 319 100 i = ir_inb i 8 := q_ga0 h rfl rfl i
theorem q_w319 (h : q_PI M) (i : Int32) : ir_gw M 319 100 i = ir_inb i 8 := q_gw0 h rfl rfl rfl i
theorem q_k320 (h : q_PI M) : ir_gk M 320 1 = true := q_gk0 h rfl
theorem q_q320 (h : q_PI M) : ir_gq M 320 1 = true := q_gq0 h rfl rfl
theorem q_a321 (h : q_PI M) (i : Int32) : ir_ga M 321 100 i = ir_inb i 900 := q_ga0 h rfl rfl i
theorem q_w321 (h : q_PI M) (i : Int32) : ir_gw M 321 100 i = ir_inb i 900 := q_gw0 h rfl rfl rfl i
theorem q_a322 (h : q_PI M) (i : Int32) : ir_ga M 322 100 i = ir_inb i 64 := q_ga0 h rfl rfl i
theorem q_w322 (h : q_PI M) (i : Int32) : ir_gw M 322 100 i = ir_inb i 64 := q_gw0 h rfl rfl rfl i
theorem q_a323 (h : q_PI M) (i : Int32) : ir_ga M 323 100 i = ir_inb i 48 := q_ga0 h rfl rfl i
theorem q_w323 (h : q_PI M) (i : Int32) : ir_gw M 323 100 i = ir_inb i 48 := q_gw0 h rfl rfl rfl i
theorem q_a324 (h : q_PI M) (i : Int32) : ir_ga M 324 100 i = ir_inb i 64 := q_ga0 h rfl rfl i
theorem q_w324 (h : q_PI M) (i : Int32) : ir_gw M 324 100 i = ir_inb i 64 := q_gw0 h rfl rfl rfl i
theorem q_k325 (h : q_PI M) : ir_gk M 325 8 = true := q_gk0 h rfl
theorem q_q325 (h : q_PI M) : ir_gq M 325 8 = true := q_gq0 h rfl rfl
theorem q_a326 (h : q_PI M) (i : Int32) : ir_ga M 326 100 i = ir_inb i 8 := q_ga0 h rfl rfl i
theorem q_w326 (h : q_PI M) (i : Int32) : ir_gw M 326 100 i = ir_inb i 8 := q_gw0 h rfl rfl rfl i
theorem q_a327 (h : q_PI M) (i : Int32) : ir_ga M 327 100 i = ir_inb i 8 := q_ga0 h rfl rfl i
theorem q_w327 (h : q_PI M) (i : Int32) : ir_gw M 327 100 i = ir_inb i 8 := q_gw0 h rfl rfl rfl i
theorem q_a328 (h : q_PI M) (i : Int32) : ir_ga M 328 100 i = ir_inb i 8 := q_ga0 h rfl rfl i
theorem q_w328 (h : q_PI M) (i : Int32) : ir_gw M 328 100 i = ir_inb i 8 := q_gw0 h rfl rfl rfl i
theorem q_a329 (h : q_PI M) (i : Int32) : ir_ga M 329 100 i = ir_inb i 8 := q_ga0 h rfl rfl i
theorem q_w329 (h : q_PI M) (i : Int32) : ir_gw M 329 100 i = ir_inb i 8 := q_gw0 h rfl rfl rfl i
theorem q_a330 (h : q_PI M) (i : Int32) : ir_ga M 330 100 i = ir_inb i 8 := q_ga0 h rfl rfl i
theorem q_w330 (h : q_PI M) (i : Int32) : ir_gw M 330 100 i = ir_inb i 8 := q_gw0 h rfl rfl rfl i
theorem q_a331 (h : q_PI M) (i : Int32) : ir_ga M 331 105 i = ir_inb i 12 := q_ga0 h rfl rfl i
theorem q_w331 (h : q_PI M) (i : Int32) : ir_gw M 331 105 i = ir_inb i 12 := q_gw0 h rfl rfl rfl i
theorem q_k332 (h : q_PI M) : ir_gk M 332 8 = true := q_gk0 h rfl
theorem q_q332 (h : q_PI M) : ir_gq M 332 8 = true := q_gq0 h rfl rfl
theorem q_a333 (h : q_PI M) (i : Int32) : ir_ga M 333 100 i = ir_inb i 8 := q_ga0 h rfl rfl i
theorem q_w333 (h : q_PI M) (i : Int32) : ir_gw M 333 100 i = ir_inb i 8 := q_gw0 h rfl rfl rfl i
theorem q_a334 (h : q_PI M) (i : Int32) : ir_ga M 334 100 i = ir_inb i 8 := q_ga0 h rfl rfl i
theorem q_w334 (h : q_PI M) (i : Int32) : ir_gw M 334 100 i = ir_inb i 8 := q_gw0 h rfl rfl rfl i
theorem q_a335 (h : q_PI M) (i : Int32) : ir_ga M 335 100 i = ir_inb i 8 := q_ga0 h rfl rfl i
theorem q_w335 (h : q_PI M) (i : Int32) : ir_gw M 335 100 i = ir_inb i 8 := q_gw0 h rfl rfl rfl i
theorem q_a336 (h : q_PI M) (i : Int32) : ir_ga M 336 100 i = ir_inb i 8 := q_ga0 h rfl rfl i
theorem q_w336 (h : q_PI M) (i : Int32) : ir_gw M 336 100 i = ir_inb i 8 := q_gw0 h rfl rfl rfl i
theorem q_a337 (h : q_PI M) (i : Int32) : ir_ga M 337 100 i = ir_inb i 8 := q_ga0 h rfl rfl i
theorem q_w337 (h : q_PI M) (i : Int32) : ir_gw M 337 100 i = ir_inb i 8 := q_gw0 h rfl rfl rfl i
theorem q_k338 (h : q_PI M) : ir_gk M 338 8 = true := q_gk0 h rfl
theorem q_q338 (h : q_PI M) : ir_gq M 338 8 = true := q_gq0 h rfl rfl
theorem q_a339 (h : q_PI M) (i : Int32) : ir_ga M 339 100 i = ir_inb i 8 := q_ga0 h rfl rfl i
theorem q_w339 (h : q_PI M) (i : Int32) : ir_gw M 339 100 i = ir_inb i 8 := q_gw0 h rfl rfl rfl i
theorem q_a340 (h : q_PI M) (i : Int32) : ir_ga M 340 100 i = ir_inb i 8 := q_ga0 h rfl rfl i
theorem q_w340 (h : q_PI M) (i : Int32) : ir_gw M 340 100 i = ir_inb i 8 := q_gw0 h rfl rfl rfl i
theorem q_a341 (h : q_PI M) (i : Int32) : ir_ga M 341 100 i = ir_inb i 8 := q_ga0 h rfl rfl i
theorem q_w341 (h : q_PI M) (i : Int32) : ir_gw M 341 100 i = ir_inb i 8 := q_gw0 h rfl rfl rfl i
theorem q_a342 (h : q_PI M) (i : Int32) : ir_ga M 342 100 i = ir_inb i 8 := q_ga0 h rfl rfl i
theorem q_w342 (h : q_PI M) (i : Int32) : ir_gw M 342 100 i = ir_inb i 8 := q_gw0 h rfl rfl rfl i
theorem q_a343 (h : q_PI M) (i : Int32) : ir_ga M 343 100 i = ir_inb i 8 := q_ga0 h rfl rfl i
theorem q_w343 (h : q_PI M) (i : Int32) : ir_gw M 343 100 i = ir_inb i 8 := q_gw0 h rfl rfl rfl i
theorem q_k344 (h : q_PI M) : ir_gk M 344 8 = true := q_gk0 h rfl
theorem q_q344 (h : q_PI M) : ir_gq M 344 8 = true := q_gq0 h rfl rfl
theorem q_a345 (h : q_PI M) (i : Int32) : ir_ga M 345 100 i = ir_inb i 8 := q_ga0 h rfl rfl i
theorem q_w345 (h : q_PI M) (i : Int32) : ir_gw M 345 100 i = ir_inb i 8 := q_gw0 h rfl rfl rfl i
theorem q_a346 (h : q_PI M) (i : Int32) : ir_ga M 346 100 i = ir_inb i 8 := q_ga0 h rfl rfl i
theorem q_w346 (h : q_PI M) (i : Int32) : ir_gw M 346 100 i = ir_inb i 8 := q_gw0 h rfl rfl rfl i
theorem q_a347 (h : q_PI M) (i : Int32) : ir_ga M 347 100 i = ir_inb i 8 := q_ga0 h rfl rfl i
theorem q_w347 (h : q_PI M) (i : Int32) : ir_gw M 347 100 i = ir_inb i 8 := q_gw0 h rfl rfl rfl i
theorem q_a348 (h : q_PI M) (i : Int32) : ir_ga M 348 100 i = ir_inb i 8 := q_ga0 h rfl rfl i
theorem q_w348 (h : q_PI M) (i : Int32) : ir_gw M 348 100 i = ir_inb i 8 := q_gw0 h rfl rfl rfl i
theorem q_a349 (h : q_PI M) (i : Int32) : ir_ga M 349 100 i = ir_inb i 8 := q_ga0 h rfl rfl i
theorem q_w349 (h : q_PI M) (i : Int32) : ir_gw M 349 100 i = ir_inb i 8 := q_gw0 h rfl rfl rfl i
theorem q_k350 (h : q_PI M) : ir_gk M 350 8 = true := q_gk0 h rfl
theorem q_q350 (h : q_PI M) : ir_gq M 350 8 = true := q_gq0 h rfl rfl
theorem q_a351 (h : q_PI M) (i : Int32) : ir_ga M 351 100 i = ir_inb i 8 := q_ga0 h rfl rfl i
theorem q_w351 (h : q_PI M) (i : Int32) : ir_gw M 351 100 i = ir_inb i 8 := q_gw0 h rfl rfl rfl i
theorem q_a352 (h : q_PI M) (i : Int32) : ir_ga M 352 100 i = ir_inb i 8 := q_ga0 h rfl rfl i
theorem q_w352 (h : q_PI M) (i : Int32) : ir_gw M 352 100 i = ir_inb i 8 := q_gw0 h rfl rfl rfl i
theorem q_a353 (h : q_PI M) (i : Int32) : ir_ga M 353 100 i = ir_inb i 8 := q_ga0 h rfl rfl i
theorem q_w353 (h : q_PI M) (i : Int32) : ir_gw M 353 100 i = ir_inb i 8 := q_gw0 h rfl rfl rfl i
theorem q_a354 (h : q_PI M) (i : Int32) : ir_ga M 354 100 i = ir_inb i 8 := q_ga0 h rfl rfl i
theorem q_w354 (h : q_PI M) (i : Int32) : ir_gw M 354 100 i = ir_inb i 8 := q_gw0 h rfl rfl rfl i
theorem q_a355 (h : q_PI M) (i : Int32) : ir_ga M 355 100 i = ir_inb i 8 := q_ga0 h rfl rfl i
theorem q_w355 (h : q_PI M) (i : Int32) : ir_gw M 355 100 i = ir_inb i 8 := q_gw0 h rfl rfl rfl i
theorem q_k356 (h : q_PI M) : ir_gk M 356 8 = true := q_gk0 h rfl
theorem q_q356 (h : q_PI M) : ir_gq M 356 8 = true := q_gq0 h rfl rfl
theorem q_a357 (h : q_PI M) (i : Int32) : ir_ga M 357 100 i = ir_inb i 8 := q_ga0 h rfl rfl i
theorem q_w357 (h : q_PI M) (i : Int32) : ir_gw M 357 100 i = ir_inb i 8 := q_gw0 h rfl rfl rfl i
theorem q_a358 (h : q_PI M) (i : Int32) : ir_ga M 358 100 i = ir_inb i 8 := q_ga0 h rfl rfl i
theorem q_w358 (h : q_PI M) (i : Int32) : ir_gw M 358 100 i = ir_inb i 8 := q_gw0 h rfl rfl rfl i
theorem q_a359 (h : q_PI M) (i : Int32) : ir_ga M 359 100 i = ir_inb i 8 := q_ga0 h rfl rfl i
theorem q_w359 (h : q_PI M) (i : Int32) : ir_gw M 359 100 i = ir_inb i 8 := q_gw0 h rfl rfl rfl i
theorem q_a360 (h : q_PI M) (i : Int32) : ir_ga M 360 100 i = ir_inb i 8 := q_ga0 h rfl rfl i
theorem q_w360 (h : q_PI M) (i : Int32) : ir_gw M 360 100 i = ir_inb i 8 := q_gw0 h rfl rfl rfl i
theorem q_a361 (h : q_PI M) (i : Int32) : ir_ga M 361 100 i = ir_inb i 8 := q_ga0 h rfl rfl i
theorem q_w361 (h : q_PI M) (i : Int32) : ir_gw M 361 100 i = ir_inb i 8 := q_gw0 h rfl rfl rfl i
theorem q_k362 (h : q_PI M) : ir_gk M 362 8 = true := q_gk0 h rfl
theorem q_q362 (h : q_PI M) : ir_gq M 362 8 = true := q_gq0 h rfl rfl
theorem q_a363 (h : q_PI M) (i : Int32) : ir_ga M 363 100 i = ir_inb i 8 := q_ga0 h rfl rfl i
theorem q_w363 (h : q_PI M) (i : Int32) : ir_gw M 363 100 i = ir_inb i 8 := q_gw0 h rfl rfl rfl i
theorem q_a364 (h : q_PI M) (i : Int32) : ir_ga M 364 100 i = ir_inb i 8 := q_ga0 h rfl rfl i
theorem q_w364 (h : q_PI M) (i : Int32) : ir_gw M 364 100 i = ir_inb i 8 := q_gw0 h rfl rfl rfl i
theorem q_a365 (h : q_PI M) (i : Int32) : ir_ga M 365 100 i = ir_inb i 8 := q_ga0 h rfl rfl i
theorem q_w365 (h : q_PI M) (i : Int32) : ir_gw M 365 100 i = ir_inb i 8 := q_gw0 h rfl rfl rfl i
theorem q_a366 (h : q_PI M) (i : Int32) : ir_ga M 366 100 i = ir_inb i 8 := q_ga0 h rfl rfl i
theorem q_w366 (h : q_PI M) (i : Int32) : ir_gw M 366 100 i = ir_inb i 8 := q_gw0 h rfl rfl rfl i
theorem q_a367 (h : q_PI M) (i : Int32) : ir_ga M 367 100 i = ir_inb i 8 := q_ga0 h rfl rfl i
theorem q_w367 (h : q_PI M) (i : Int32) : ir_gw M 367 100 i = ir_inb i 8 := q_gw0 h rfl rfl rfl i
theorem q_k368 (h : q_PI M) : ir_gk M 368 8 = true := q_gk0 h rfl
theorem q_q368 (h : q_PI M) : ir_gq M 368 8 = true := q_gq0 h rfl rfl
theorem q_a369 (h : q_PI M) (i : Int32) : ir_ga M 369 100 i = ir_inb i 8 := q_ga0 h rfl rfl i
theorem q_w369 (h : q_PI M) (i : Int32) : ir_gw M 369 100 i = ir_inb i 8 := q_gw0 h rfl rfl rfl i
theorem q_a370 (h : q_PI M) (i : Int32) : ir_ga M 370 100 i = ir_inb i 8 := q_ga0 h rfl rfl i
theorem q_w370 (h : q_PI M) (i : Int32) : ir_gw M 370 100 i = ir_inb i 8 := q_gw0 h rfl rfl rfl i
theorem q_a371 (h : q_PI M) (i : Int32) : ir_ga M 371 100 i = ir_inb i 8 := q_ga0 h rfl rfl i
theorem q_w371 (h : q_PI M) (i : Int32) : ir_gw M 371 100 i = ir_inb i 8 := q_gw0 h rfl rfl rfl i
theorem q_a372 (h : q_PI M) (i : Int32) : ir_ga M 372 100 i = ir_inb i 8 := q_ga0 h rfl rfl i
theorem q_w372 (h : q_PI M) (i : Int32) : ir_gw M 372 100 i = ir_inb i 8 := q_gw0 h rfl rfl rfl i
theorem q_a373 (h : q_PI M) (i : Int32) : ir_ga M 373 100 i = ir_inb i 8 := q_ga0 h rfl rfl i
theorem q_w373 (h : q_PI M) (i : Int32) : ir_gw M 373 100 i = ir_inb i 8 := q_gw0 h rfl rfl rfl i
theorem q_k374 (h : q_PI M) : ir_gk M 374 8 = true := q_gk0 h rfl
theorem q_q374 (h : q_PI M) : ir_gq M 374 8 = true := q_gq0 h rfl rfl
theorem q_a375 (h : q_PI M) (i : Int32) : ir_ga M 375 100 i = ir_inb i 8 := q_ga0 h rfl rfl i
theorem q_w375 (h : q_PI M) (i : Int32) : ir_gw M 375 100 i = ir_inb i 8 := q_gw0 h rfl rfl rfl i
theorem q_a376 (h : q_PI M) (i : Int32) : ir_ga M 376 100 i = ir_inb i 8 := q_ga0 h rfl rfl i
theorem q_w376 (h : q_PI M) (i : Int32) : ir_gw M 376 100 i = ir_inb i 8 := q_gw0 h rfl rfl rfl i
theorem q_a377 (h : q_PI M) (i : Int32) : ir_ga M 377 100 i = ir_inb i 8 := q_ga0 h rfl rfl i
theorem q_w377 (h : q_PI M) (i : Int32) : ir_gw M 377 100 i = ir_inb i 8 := q_gw0 h rfl rfl rfl i
theorem q_a378 (h : q_PI M) (i : Int32) : ir_ga M 378 100 i = ir_inb i 8 := q_ga0 h rfl rfl i
theorem q_w378 (h : q_PI M) (i : Int32) : ir_gw M 378 100 i = ir_inb i 8 := q_gw0 h rfl rfl rfl i
theorem q_a379 (h : q_PI M) (i : Int32) : ir_ga M 379 100 i = ir_inb i 8 := q_ga0 h rfl rfl i
theorem q_w379 (h : q_PI M) (i : Int32) : ir_gw M 379 100 i = ir_inb i 8 := q_gw0 h rfl rfl rfl i
theorem q_k380 (h : q_PI M) : ir_gk M 380 8 = true := q_gk0 h rfl
theorem q_q380 (h : q_PI M) : ir_gq M 380 8 = true := q_gq0 h rfl rfl
theorem q_a381 (h : q_PI M) (i : Int32) : ir_ga M 381 100 i = ir_inb i 8 := q_ga0 h rfl rfl i
theorem q_w381 (h : q_PI M) (i : Int32) : ir_gw M 381 100 i = ir_inb i 8 := q_gw0 h rfl rfl rfl i
theorem q_a382 (h : q_PI M) (i : Int32) : ir_ga M 382 100 i = ir_inb i 8 := q_ga0 h rfl rfl i
theorem q_w382 (h : q_PI M) (i : Int32) : ir_gw M 382 100 i = ir_inb i 8 := q_gw0 h rfl rfl rfl i
theorem q_a383 (h : q_PI M) (i : Int32) : ir_ga M 383 100 i = ir_inb i 8 := q_ga0 h rfl rfl i
theorem q_w383 (h : q_PI M) (i : Int32) : ir_gw M 383 100 i = ir_inb i 8 := q_gw0 h rfl rfl rfl i
theorem q_a384 (h : q_PI M) (i : Int32) : ir_ga M 384 100 i = ir_inb i 8 := q_ga0 h rfl rfl i
theorem q_w384 (h : q_PI M) (i : Int32) : ir_gw M 384 100 i = ir_inb i 8 := q_gw0 h rfl rfl rfl i
theorem q_a385 (h : q_PI M) (i : Int32) : ir_ga M 385 100 i = ir_inb i 8 := q_ga0 h rfl rfl i
theorem q_w385 (h : q_PI M) (i : Int32) : ir_gw M 385 100 i = ir_inb i 8 := q_gw0 h rfl rfl rfl i
theorem q_k386 (h : q_PI M) : ir_gk M 386 8 = true := q_gk0 h rfl
theorem q_q386 (h : q_PI M) : ir_gq M 386 8 = true := q_gq0 h rfl rfl
theorem q_a387 (h : q_PI M) (i : Int32) : ir_ga M 387 100 i = ir_inb i 8 := q_ga0 h rfl rfl i
theorem q_w387 (h : q_PI M) (i : Int32) : ir_gw M 387 100 i = ir_inb i 8 := q_gw0 h rfl rfl rfl i
theorem q_a388 (h : q_PI M) (i : Int32) : ir_ga M 388 100 i = ir_inb i 8 := q_ga0 h rfl rfl i
theorem q_w388 (h : q_PI M) (i : Int32) : ir_gw M 388 100 i = ir_inb i 8 := q_gw0 h rfl rfl rfl i
theorem q_a389 (h : q_PI M) (i : Int32) : ir_ga M 389 100 i = ir_inb i 8 := q_ga0 h rfl rfl i
theorem q_w389 (h : q_PI M) (i : Int32) : ir_gw M 389 100 i = ir_inb i 8 := q_gw0 h rfl rfl rfl i
theorem q_a390 (h : q_PI M) (i : Int32) : ir_ga M 390 100 i = ir_inb i 8 := q_ga0 h rfl rfl i
theorem q_w390 (h : q_PI M) (i : Int32) : ir_gw M 390 100 i = ir_inb i 8 := q_gw0 h rfl rfl rfl i
theorem q_a391 (h : q_PI M) (i : Int32) : ir_ga M 391 100 i = ir_inb i 8 := q_ga0 h rfl rfl i
theorem q_w391 (h : q_PI M) (i : Int32) : ir_gw M 391 100 i = ir_inb i 8 := q_gw0 h rfl rfl rfl i
theorem q_k392 (h : q_PI M) : ir_gk M 392 8 = true := q_gk0 h rfl
theorem q_q392 (h : q_PI M) : ir_gq M 392 8 = true := q_gq0 h rfl rfl
theorem q_a393 (h : q_PI M) (i : Int32) : ir_ga M 393 100 i = ir_inb i 8 := q_ga0 h rfl rfl i
theorem q_w393 (h : q_PI M) (i : Int32) : ir_gw M 393 100 i = ir_inb i 8 := q_gw0 h rfl rfl rfl i
theorem q_a394 (h : q_PI M) (i : Int32) : ir_ga M 394 100 i = ir_inb i 8 := q_ga0 h rfl rfl i
theorem q_w394 (h : q_PI M) (i : Int32) : ir_gw M 394 100 i = ir_inb i 8 := q_gw0 h rfl rfl rfl i
theorem q_a395 (h : q_PI M) (i : Int32) : ir_ga M 395 100 i = ir_inb i 8 := q_ga0 h rfl rfl i
theorem q_w395 (h : q_PI M) (i : Int32) : ir_gw M 395 100 i = ir_inb i 8 := q_gw0 h rfl rfl rfl i
theorem q_a396 (h : q_PI M) (i : Int32) : ir_ga M 396 100 i = ir_inb i 8 := q_ga0 h rfl rfl i
theorem q_w396 (h : q_PI M) (i : Int32) : ir_gw M 396 100 i = ir_inb i 8 := q_gw0 h rfl rfl rfl i
theorem q_a397 (h : q_PI M) (i : Int32) : ir_ga M 397 100 i = ir_inb i 8 := q_ga0 h rfl rfl i
theorem q_w397 (h : q_PI M) (i : Int32) : ir_gw M 397 100 i = ir_inb i 8 := q_gw0 h rfl rfl rfl i
theorem q_k398 (h : q_PI M) : ir_gk M 398 8 = true := q_gk0 h rfl
theorem q_q398 (h : q_PI M) : ir_gq M 398 8 = true := q_gq0 h rfl rfl
theorem q_a399 (h : q_PI M) (i : Int32) : ir_ga M 399 100 i = ir_inb i 8 := q_ga0 h rfl rfl i
theorem q_w399 (h : q_PI M) (i : Int32) : ir_gw M 399 100 i = ir_inb i 8 := q_gw0 h rfl rfl rfl i
theorem q_a400 (h : q_PI M) (i : Int32) : ir_ga M 400 100 i = ir_inb i 8 := q_ga0 h rfl rfl i
theorem q_w400 (h : q_PI M) (i : Int32) : ir_gw M 400 100 i = ir_inb i 8 := q_gw0 h rfl rfl rfl i
theorem q_a401 (h : q_PI M) (i : Int32) : ir_ga M 401 100 i = ir_inb i 8 := q_ga0 h rfl rfl i
theorem q_w401 (h : q_PI M) (i : Int32) : ir_gw M 401 100 i = ir_inb i 8 := q_gw0 h rfl rfl rfl i
theorem q_a402 (h : q_PI M) (i : Int32) : ir_ga M 402 100 i = ir_inb i 8 := q_ga0 h rfl rfl i
theorem q_w402 (h : q_PI M) (i : Int32) : ir_gw M 402 100 i = ir_inb i 8 := q_gw0 h rfl rfl rfl i
theorem q_a403 (h : q_PI M) (i : Int32) : ir_ga M 403 100 i = ir_inb i 8 := q_ga0 h rfl rfl i
theorem q_w403 (h : q_PI M) (i : Int32) : ir_gw M 403 100 i = ir_inb i 8 := q_gw0 h rfl rfl rfl i
theorem q_k404 (h : q_PI M) : ir_gk M 404 10 = true := q_gk0 h rfl
theorem q_q404 (h : q_PI M) : ir_gq M 404 10 = true := q_gq0 h rfl rfl
theorem q_a405 (h : q_PI M) (i : Int32) : ir_ga M 405 101 i = ir_inb i 30 := q_ga0 h rfl rfl i
theorem q_w405 (h : q_PI M) (i : Int32) : ir_gw M 405 101 i = ir_inb i 30 := q_gw0 h rfl rfl rfl i
theorem q_k406 (h : q_PI M) : ir_gk M 406 10 = true := q_gk0 h rfl
theorem q_q406 (h : q_PI M) : ir_gq M 406 10 = true := q_gq0 h rfl rfl
theorem q_a407 (h : q_PI M) (i : Int32) : ir_ga M 407 101 i = ir_inb i 30 := q_ga0 h rfl rfl i
theorem q_w407 (h : q_PI M) (i : Int32) : ir_gw M 407 101 i = ir_inb i 30 := q_gw0 h rfl rfl rfl i
theorem q_k408 (h : q_PI M) : ir_gk M 408 10 = true := q_gk0 h rfl
theorem q_q408 (h : q_PI M) : ir_gq M 408 10 = true := q_gq0 h rfl rfl
theorem q_a409 (h : q_PI M) (i : Int32) : ir_ga M 409 101 i = ir_inb i 30 := q_ga0 h rfl rfl i
theorem q_w409 (h : q_PI M) (i : Int32) : ir_gw M 409 101 i = ir_inb i 30 := q_gw0 h rfl rfl rfl i
theorem q_k410 (h : q_PI M) : ir_gk M 410 10 = true := q_gk0 h rfl
theorem q_q410 (h : q_PI M) : ir_gq M 410 10 = true := q_gq0 h rfl rfl
theorem q_a411 (h : q_PI M) (i : Int32) : ir_ga M 411 101 i = ir_inb i 30 := q_ga0 h rfl rfl i
theorem q_w411 (h : q_PI M) (i : Int32) : ir_gw M 411 101 i = ir_inb i 30 := q_gw0 h rfl rfl rfl i
theorem q_k412 (h : q_PI M) : ir_gk M 412 12 = true := q_gk0 h rfl
theorem q_q412 (h : q_PI M) : ir_gq M 412 12 = true := q_gq0 h rfl rfl
theorem q_a413 (h : q_PI M) (i : Int32) : ir_ga M 413 100 i = ir_inb i 1640 := q_ga0 h rfl rfl i
theorem q_w413 (h : q_PI M) (i : Int32) : ir_gw M 413 100 i = ir_inb i 1640 := q_gw0 h rfl rfl rfl i
theorem q_a414 (h : q_PI M) (i : Int32) : ir_ga M 414 100 i = ir_inb i 1640 := q_ga0 h rfl rfl i
theorem q_w414 (h : q_PI M) (i : Int32) : ir_gw M 414 100 i = ir_inb i 1640 := q_gw0 h rfl rfl rfl i
theorem q_a415 (h : q_PI M) (i : Int32) : ir_ga M 415 100 i = ir_inb i 4920 := q_ga0 h rfl rfl i
theorem q_w415 (h : q_PI M) (i : Int32) : ir_gw M 415 100 i = ir_inb i 4920 := q_gw0 h rfl rfl rfl i
theorem q_a416 (h : q_PI M) (i : Int32) : ir_ga M 416 103 i = ir_inb i 3 := q_ga0 h rfl rfl i
theorem q_w416 (h : q_PI M) (i : Int32) : ir_gw M 416 103 i = ir_inb i 3 := q_gw0 h rfl rfl rfl i
theorem q_a417 (h : q_PI M) (i : Int32) : ir_ga M 417 100 i = ir_inb i 900 := q_ga0 h rfl rfl i
theorem q_w417 (h : q_PI M) (i : Int32) : ir_gw M 417 100 i = ir_inb i 900 := q_gw0 h rfl rfl rfl i
theorem q_a418 (h : q_PI M) (i : Int32) : ir_ga M 418 100 i = ir_inb i 64 := q_ga0 h rfl rfl i
theorem q_w418 (h : q_PI M) (i : Int32) : ir_gw M 418 100 i = ir_inb i 64 := q_gw0 h rfl rfl rfl i
theorem q_a419 (h : q_PI M) (i : Int32) : ir_ga M 419 100 i = ir_inb i 8 := q_ga0 h rfl rfl i
theorem q_w419 (h : q_PI M) (i : Int32) : ir_gw M 419 100 i = ir_inb i 8 := q_gw0 h rfl rfl rfl i
theorem q_a420 (h : q_PI M) (i : Int32) : ir_ga M 420 100 i = ir_inb i 8 := q_ga0 h rfl rfl i
theorem q_w420 (h : q_PI M) (i : Int32) : ir_gw M 420 100 i = ir_inb i 8 := q_gw0 h rfl rfl rfl i
theorem q_a421 (h : q_PI M) (i : Int32) : ir_ga M 421 100 i = ir_inb i 176 := q_ga0 h rfl rfl i
theorem q_w421 (h : q_PI M) (i : Int32) : ir_gw M 421 100 i = ir_inb i 176 := q_gw0 h rfl rfl rfl i
theorem q_a422 (h : q_PI M) (i : Int32) : ir_ga M 422 100 i = ir_inb i 8 := q_ga0 h rfl rfl i
theorem q_w422 (h : q_PI M) (i : Int32) : ir_gw M 422 100 i = ir_inb i 8 := q_gw0 h rfl rfl rfl i
theorem q_a423 (h : q_PI M) (i : Int32) : ir_ga M 423 100 i = ir_inb i 3 := q_ga0 h rfl rfl i
theorem q_w423 (h : q_PI M) (i : Int32) : ir_gw M 423 100 i = ir_inb i 3 := q_gw0 h rfl rfl rfl i
theorem q_a424 (h : q_PI M) (i : Int32) : ir_ga M 424 100 i = ir_inb i 3 := q_ga0 h rfl rfl i
theorem q_w424 (h : q_PI M) (i : Int32) : ir_gw M 424 100 i = ir_inb i 3 := q_gw0 h rfl rfl rfl i
theorem q_a425 (h : q_PI M) (i : Int32) : ir_ga M 425 100 i = ir_inb i 3 := q_ga0 h rfl rfl i
theorem q_w425 (h : q_PI M) (i : Int32) : ir_gw M 425 100 i = ir_inb i 3 := q_gw0 h rfl rfl rfl i
theorem q_a426 (h : q_PI M) (i : Int32) : ir_ga M 426 100 i = ir_inb i 8 := q_ga0 h rfl rfl i
theorem q_w426 (h : q_PI M) (i : Int32) : ir_gw M 426 100 i = ir_inb i 8 := q_gw0 h rfl rfl rfl i
theorem q_a427 (h : q_PI M) (i : Int32) : ir_ga M 427 100 i = ir_inb i 8 := q_ga0 h rfl rfl i
theorem q_w427 (h : q_PI M) (i : Int32) : ir_gw M 427 100 i = ir_inb i 8 := q_gw0 h rfl rfl rfl i
theorem q_a428 (h : q_PI M) (i : Int32) : ir_ga M 428 100 i = ir_inb i 8 := q_ga0 h rfl rfl i
theorem q_w428 (h : q_PI M) (i : Int32) : ir_gw M 428 100 i = ir_inb i 8 := q_gw0 h rfl rfl rfl i
theorem q_a429 (h : q_PI M) (i : Int32) : ir_ga M 429 100 i = ir_inb i 8 := q_ga0 h rfl rfl i
theorem q_w429 (h : q_PI M) (i : Int32) : ir_gw M 429 100 i = ir_inb i 8 := q_gw0 h rfl rfl rfl i
theorem q_a430 (h : q_PI M) (i : Int32) : ir_ga M 430 100 i = ir_inb i 256 := q_ga0 h rfl rfl i
theorem q_w430 (h : q_PI M) (i : Int32) : ir_gw M 430 100 i = ir_inb i 256 := q_gw0 h rfl rfl rfl i
theorem q_a431 (h : q_PI M) (i : Int32) : ir_ga M 431 100 i = ir_inb i 8 := q_ga0 h rfl rfl i
theorem q_w431 (h : q_PI M) (i : Int32) : ir_gw M 431 100 i = ir_inb i 8 := q_gw0 h rfl rfl rfl i
theorem q_a432 (h : q_PI M) (i : Int32) : ir_ga M 432 100 i = ir_inb i 8 := q_ga0 h rfl rfl i
theorem q_w432 (h : q_PI M) (i : Int32) : ir_gw M 432 100 i = ir_inb i 8 := q_gw0 h rfl rfl rfl i
theorem q_a433 (h : q_PI M) (i : Int32) : ir_ga M 433 100 i = ir_inb i 4 := q_ga0 h rfl rfl i
theorem q_w433 (h : q_PI M) (i : Int32) : ir_gw M 433 100 i = ir_inb i 4 := q_gw0 h rfl rfl rfl i
theorem q_a434 (h : q_PI M) (i : Int32) : ir_ga M 434 100 i = ir_inb i 4 := q_ga0 h rfl rfl i
theorem q_w434 (h : q_PI M) (i : Int32) : ir_gw M 434 100 i = ir_inb i 4 := q_gw0 h rfl rfl rfl i
theorem q_a435 (h : q_PI M) (i : Int32) : ir_ga M 435 101 i = ir_inb i 120 := q_ga0 h rfl rfl i
theorem q_w435 (h : q_PI M) (i : Int32) : ir_gw M 435 101 i = ir_inb i 120 := q_gw0 h rfl rfl rfl i
theorem q_a436 (h : q_PI M) (i : Int32) : ir_ga M 436 101 i = ir_inb i 1 := q_ga0 h rfl rfl i
theorem q_w436 (h : q_PI M) (i : Int32) : ir_gw M 436 101 i = ir_inb i 1 := q_gw0 h rfl rfl rfl i
theorem q_p1_0 (h : q_PI M) : ir_P M 1 0 = 2 := q_pt_of h 0 0 rfl rfl
theorem q_g1_0 (h : q_PI M) : ir_gp M 1 11 0 = true := q_gp0 h rfl (q_p1_0 h) rfl
theorem q_p1_4 (h : q_PI M) : ir_P M 1 4 = 3 := q_pt_of h 0 1 rfl rfl
theorem q_g1_4 (h : q_PI M) : ir_gp M 1 11 4 = true := q_gp0 h rfl (q_p1_4 h) rfl
theorem q_p1_5 (h : q_PI M) : ir_P M 1 5 = 4 := q_pt_of h 0 2 rfl rfl
theorem q_g1_5 (h : q_PI M) : ir_gp M 1 11 5 = true := q_gp0 h rfl (q_p1_5 h) rfl
theorem q_p1_6 (h : q_PI M) : ir_P M 1 6 = 12 := q_pt_of h 0 3 rfl rfl
theorem q_g1_6 (h : q_PI M) : ir_gp M 1 11 6 = true := q_gp0 h rfl (q_p1_6 h) rfl
theorem q_p1_7 (h : q_PI M) : ir_P M 1 7 = 91 := q_pt_of h 0 4 rfl rfl
theorem q_g1_7 (h : q_PI M) : ir_gp M 1 11 7 = true := q_gp0 h rfl (q_p1_7 h) rfl
theorem q_p1_8 (h : q_PI M) : ir_P M 1 8 = 97 := q_pt_of h 0 5 rfl rfl
theorem q_g1_8 (h : q_PI M) : ir_gp M 1 11 8 = true := q_gp0 h rfl (q_p1_8 h) rfl
theorem q_p1_9 (h : q_PI M) : ir_P M 1 9 = 98 := q_pt_of h 0 6 rfl rfl
theorem q_g1_9 (h : q_PI M) : ir_gp M 1 11 9 = true := q_gp0 h rfl (q_p1_9 h) rfl
theorem q_p1_10 (h : q_PI M) : ir_P M 1 10 = 99 := q_pt_of h 0 7 rfl rfl
theorem q_g1_10 (h : q_PI M) : ir_gp M 1 11 10 = true := q_gp0 h rfl (q_p1_10 h) rfl
theorem q_p1_11 (h : q_PI M) : ir_P M 1 11 = 100 := q_pt_of h 0 8 rfl rfl
theorem q_g1_11 (h : q_PI M) : ir_gp M 1 11 11 = true := q_gp0 h rfl (q_p1_11 h) rfl
theorem q_p1_12 (h : q_PI M) : ir_P M 1 12 = 116 := q_pt_of h 0 9 rfl rfl
theorem q_g1_12 (h : q_PI M) : ir_gp M 1 11 12 = true := q_gp0 h rfl (q_p1_12 h) rfl
theorem q_p1_13 (h : q_PI M) : ir_P M 1 13 = 121 := q_pt_of h 0 10 rfl rfl
theorem q_g1_13 (h : q_PI M) : ir_gp M 1 11 13 = true := q_gp0 h rfl (q_p1_13 h) rfl
theorem q_p1_14 (h : q_PI M) : ir_P M 1 14 = 125 := q_pt_of h 0 11 rfl rfl
theorem q_g1_14 (h : q_PI M) : ir_gp M 1 11 14 = true := q_gp0 h rfl (q_p1_14 h) rfl
theorem q_p1_15 (h : q_PI M) : ir_P M 1 15 = 129 := q_pt_of h 0 12 rfl rfl
theorem q_g1_15 (h : q_PI M) : ir_gp M 1 11 15 = true := q_gp0 h rfl (q_p1_15 h) rfl
theorem q_p1_16 (h : q_PI M) : ir_P M 1 16 = 133 := q_pt_of h 0 13 rfl rfl
theorem q_g1_16 (h : q_PI M) : ir_gp M 1 11 16 = true := q_gp0 h rfl (q_p1_16 h) rfl
theorem q_p3_0 (h : q_PI M) : ir_P M 3 0 = 4 := q_pt_of h 0 14 rfl rfl
theorem q_g3_0 (h : q_PI M) : ir_gp M 3 5 0 = true := q_gp0 h rfl (q_p3_0 h) rfl
theorem q_p3_1 (h : q_PI M) : ir_P M 3 1 = 12 := q_pt_of h 0 15 rfl rfl
theorem q_g3_1 (h : q_PI M) : ir_gp M 3 5 1 = true := q_gp0 h rfl (q_p3_1 h) rfl
theorem q_p3_4 (h : q_PI M) : ir_P M 3 4 = 18 := q_pt_of h 1 0 rfl rfl
theorem q_g3_4 (h : q_PI M) : ir_gp M 3 5 4 = true := q_gp0 h rfl (q_p3_4 h) rfl
theorem q_p4_7 (h : q_PI M) : ir_P M 4 7 = 5 := q_pt_of h 1 1 rfl rfl
theorem q_g4_7 (h : q_PI M) : ir_gp M 4 9 7 = true := q_gp0 h rfl (q_p4_7 h) rfl
theorem q_p4_8 (h : q_PI M) : ir_P M 4 8 = 6 := q_pt_of h 1 2 rfl rfl
theorem q_g4_8 (h : q_PI M) : ir_gp M 4 9 8 = true := q_gp0 h rfl (q_p4_8 h) rfl
theorem q_p4_9 (h : q_PI M) : ir_P M 4 9 = 7 := q_pt_of h 1 3 rfl rfl
theorem q_g4_9 (h : q_PI M) : ir_gp M 4 9 9 = true := q_gp0 h rfl (q_p4_9 h) rfl
theorem q_p4_10 (h : q_PI M) : ir_P M 4 10 = 10 := q_pt_of h 1 4 rfl rfl
theorem q_g4_10 (h : q_PI M) : ir_gp M 4 9 10 = true := q_gp0 h rfl (q_p4_10 h) rfl
theorem q_p4_11 (h : q_PI M) : ir_P M 4 11 = 11 := q_pt_of h 1 5 rfl rfl
theorem q_g4_11 (h : q_PI M) : ir_gp M 4 9 11 = true := q_gp0 h rfl (q_p4_11 h) rfl
theorem q_p7_1 (h : q_PI M) : ir_P M 7 1 = 8 := q_pt_of h 1 6 rfl rfl
theorem q_g7_1 (h : q_PI M) : ir_gp M 7 1 1 = true := q_gp0 h rfl (q_p7_1 h) rfl
theorem q_p7_2 (h : q_PI M) : ir_P M 7 2 = 9 := q_pt_of h 1 7 rfl rfl
theorem q_g7_2 (h : q_PI M) : ir_gp M 7 1 2 = true := q_gp0 h rfl (q_p7_2 h) rfl
theorem q_p12_4 (h : q_PI M) : ir_P M 12 4 = 13 := q_pt_of h 1 8 rfl rfl
theorem q_g12_4 (h : q_PI M) : ir_gp M 12 8 4 = true := q_gp0 h rfl (q_p12_4 h) rfl
theorem q_p12_5 (h : q_PI M) : ir_P M 12 5 = 14 := q_pt_of h 1 9 rfl rfl
theorem q_g12_5 (h : q_PI M) : ir_gp M 12 8 5 = true := q_gp0 h rfl (q_p12_5 h) rfl
theorem q_p12_6 (h : q_PI M) : ir_P M 12 6 = 15 := q_pt_of h 1 10 rfl rfl
theorem q_g12_6 (h : q_PI M) : ir_gp M 12 8 6 = true := q_gp0 h rfl (q_p12_6 h) rfl
theorem q_p12_7 (h : q_PI M) : ir_P M 12 7 = 16 := q_pt_of h 1 11 rfl rfl
theorem q_g12_7 (h : q_PI M) : ir_gp M 12 8 7 = true := q_gp0 h rfl (q_p12_7 h) rfl
theorem q_p12_8 (h : q_PI M) : ir_P M 12 8 = 17 := q_pt_of h 1 12 rfl rfl
theorem q_g12_8 (h : q_PI M) : ir_gp M 12 8 8 = true := q_gp0 h rfl (q_p12_8 h) rfl
theorem q_p18_0 (h : q_PI M) : ir_P M 18 0 = 19 := q_pt_of h 1 13 rfl rfl
theorem q_p18_1 (h : q_PI M) : ir_P M 18 1 = 25 := q_pt_of h 1 14 rfl rfl
theorem q_p18_2 (h : q_PI M) : ir_P M 18 2 = 31 := q_pt_of h 1 15 rfl rfl
theorem q_p18_3 (h : q_PI M) : ir_P M 18 3 = 37 := q_pt_of h 2 0 rfl rfl
theorem q_p18_4 (h : q_PI M) : ir_P M 18 4 = 43 := q_pt_of h 2 1 rfl rfl
theorem q_p18_5 (h : q_PI M) : ir_P M 18 5 = 49 := q_pt_of h 2 2 rfl rfl
theorem q_p18_6 (h : q_PI M) : ir_P M 18 6 = 55 := q_pt_of h 2 3 rfl rfl
theorem q_p18_7 (h : q_PI M) : ir_P M 18 7 = 61 := q_pt_of h 2 4 rfl rfl
theorem q_p18_8 (h : q_PI M) : ir_P M 18 8 = 67 := q_pt_of h 2 5 rfl rfl
theorem q_p18_9 (h : q_PI M) : ir_P M 18 9 = 73 := q_pt_of h 2 6 rfl rfl
theorem q_p18_10 (h : q_PI M) : ir_P M 18 10 = 79 := q_pt_of h 2 7 rfl rfl
theorem q_p18_11 (h : q_PI M) : ir_P M 18 11 = 85 := q_pt_of h 2 8 rfl rfl
theorem q_p19_4 (h : q_PI M) : ir_P M 19 4 = 20 := q_pt_of h 2 9 rfl rfl
theorem q_g19_4 (h : q_PI M) : ir_gp M 19 8 4 = true := q_gp0 h rfl (q_p19_4 h) rfl
theorem q_p19_5 (h : q_PI M) : ir_P M 19 5 = 21 := q_pt_of h 2 10 rfl rfl
theorem q_g19_5 (h : q_PI M) : ir_gp M 19 8 5 = true := q_gp0 h rfl (q_p19_5 h) rfl
theorem q_p19_6 (h : q_PI M) : ir_P M 19 6 = 22 := q_pt_of h 2 11 rfl rfl
theorem q_g19_6 (h : q_PI M) : ir_gp M 19 8 6 = true := q_gp0 h rfl (q_p19_6 h) rfl
theorem q_p19_7 (h : q_PI M) : ir_P M 19 7 = 23 := q_pt_of h 2 12 rfl rfl
theorem q_g19_7 (h : q_PI M) : ir_gp M 19 8 7 = true := q_gp0 h rfl (q_p19_7 h) rfl
theorem q_p19_8 (h : q_PI M) : ir_P M 19 8 = 24 := q_pt_of h 2 13 rfl rfl
theorem q_g19_8 (h : q_PI M) : ir_gp M 19 8 8 = true := q_gp0 h rfl (q_p19_8 h) rfl
theorem q_p25_4 (h : q_PI M) : ir_P M 25 4 = 26 := q_pt_of h 2 14 rfl rfl
theorem q_g25_4 (h : q_PI M) : ir_gp M 25 8 4 = true := q_gp0 h rfl (q_p25_4 h) rfl
theorem q_p25_5 (h : q_PI M) : ir_P M 25 5 = 27 := q_pt_of h 2 15 rfl rfl
theorem q_g25_5 (h : q_PI M) : ir_gp M 25 8 5 = true := q_gp0 h rfl (q_p25_5 h) rfl
theorem q_p25_6 (h : q_PI M) : ir_P M 25 6 = 28 := q_pt_of h 3 0 rfl rfl
theorem q_g25_6 (h : q_PI M) : ir_gp M 25 8 6 = true := q_gp0 h rfl (q_p25_6 h) rfl
theorem q_p25_7 (h : q_PI M) : ir_P M 25 7 = 29 := q_pt_of h 3 1 rfl rfl
theorem q_g25_7 (h : q_PI M) : ir_gp M 25 8 7 = true := q_gp0 h rfl (q_p25_7 h) rfl
theorem q_p25_8 (h : q_PI M) : ir_P M 25 8 = 30 := q_pt_of h 3 2 rfl rfl
theorem q_g25_8 (h : q_PI M) : ir_gp M 25 8 8 = true := q_gp0 h rfl (q_p25_8 h) rfl
theorem q_p31_4 (h : q_PI M) : ir_P M 31 4 = 32 := q_pt_of h 3 3 rfl rfl
theorem q_g31_4 (h : q_PI M) : ir_gp M 31 8 4 = true := q_gp0 h rfl (q_p31_4 h) rfl
theorem q_p31_5 (h : q_PI M) : ir_P M 31 5 = 33 := q_pt_of h 3 4 rfl rfl
theorem q_g31_5 (h : q_PI M) : ir_gp M 31 8 5 = true := q_gp0 h rfl (q_p31_5 h) rfl
theorem q_p31_6 (h : q_PI M) : ir_P M 31 6 = 34 := q_pt_of h 3 5 rfl rfl
theorem q_g31_6 (h : q_PI M) : ir_gp M 31 8 6 = true := q_gp0 h rfl (q_p31_6 h) rfl
theorem q_p31_7 (h : q_PI M) : ir_P M 31 7 = 35 := q_pt_of h 3 6 rfl rfl
theorem q_g31_7 (h : q_PI M) : ir_gp M 31 8 7 = true := q_gp0 h rfl (q_p31_7 h) rfl
theorem q_p31_8 (h : q_PI M) : ir_P M 31 8 = 36 := q_pt_of h 3 7 rfl rfl
theorem q_g31_8 (h : q_PI M) : ir_gp M 31 8 8 = true := q_gp0 h rfl (q_p31_8 h) rfl
theorem q_p37_4 (h : q_PI M) : ir_P M 37 4 = 38 := q_pt_of h 3 8 rfl rfl
theorem q_g37_4 (h : q_PI M) : ir_gp M 37 8 4 = true := q_gp0 h rfl (q_p37_4 h) rfl
theorem q_p37_5 (h : q_PI M) : ir_P M 37 5 = 39 := q_pt_of h 3 9 rfl rfl
theorem q_g37_5 (h : q_PI M) : ir_gp M 37 8 5 = true := q_gp0 h rfl (q_p37_5 h) rfl
theorem q_p37_6 (h : q_PI M) : ir_P M 37 6 = 40 := q_pt_of h 3 10 rfl rfl
theorem q_g37_6 (h : q_PI M) : ir_gp M 37 8 6 = true := q_gp0 h rfl (q_p37_6 h) rfl
theorem q_p37_7 (h : q_PI M) : ir_P M 37 7 = 41 := q_pt_of h 3 11 rfl rfl
theorem q_g37_7 (h : q_PI M) : ir_gp M 37 8 7 = true := q_gp0 h rfl (q_p37_7 h) rfl
theorem q_p37_8 (h : q_PI M) : ir_P M 37 8 = 42 := q_pt_of h 3 12 rfl rfl
theorem q_g37_8 (h : q_PI M) : ir_gp M 37 8 8 = true := q_gp0 h rfl (q_p37_8 h) rfl
theorem q_p43_4 (h : q_PI M) : ir_P M 43 4 = 44 := q_pt_of h 3 13 rfl rfl
theorem q_g43_4 (h : q_PI M) : ir_gp M 43 8 4 = true := q_gp0 h rfl (q_p43_4 h) rfl
theorem q_p43_5 (h : q_PI M) : ir_P M 43 5 = 45 := q_pt_of h 3 14 rfl rfl
theorem q_g43_5 (h : q_PI M) : ir_gp M 43 8 5 = true := q_gp0 h rfl (q_p43_5 h) rfl
theorem q_p43_6 (h : q_PI M) : ir_P M 43 6 = 46 := q_pt_of h 3 15 rfl rfl
theorem q_g43_6 (h : q_PI M) : ir_gp M 43 8 6 = true := q_gp0 h rfl (q_p43_6 h) rfl
theorem q_p43_7 (h : q_PI M) : ir_P M 43 7 = 47 := q_pt_of h 4 0 rfl rfl
theorem q_g43_7 (h : q_PI M) : ir_gp M 43 8 7 = true := q_gp0 h rfl (q_p43_7 h) rfl
theorem q_p43_8 (h : q_PI M) : ir_P M 43 8 = 48 := q_pt_of h 4 1 rfl rfl
theorem q_g43_8 (h : q_PI M) : ir_gp M 43 8 8 = true := q_gp0 h rfl (q_p43_8 h) rfl
theorem q_p49_4 (h : q_PI M) : ir_P M 49 4 = 50 := q_pt_of h 4 2 rfl rfl
theorem q_g49_4 (h : q_PI M) : ir_gp M 49 8 4 = true := q_gp0 h rfl (q_p49_4 h) rfl
theorem q_p49_5 (h : q_PI M) : ir_P M 49 5 = 51 := q_pt_of h 4 3 rfl rfl
theorem q_g49_5 (h : q_PI M) : ir_gp M 49 8 5 = true := q_gp0 h rfl (q_p49_5 h) rfl
theorem q_p49_6 (h : q_PI M) : ir_P M 49 6 = 52 := q_pt_of h 4 4 rfl rfl
theorem q_g49_6 (h : q_PI M) : ir_gp M 49 8 6 = true := q_gp0 h rfl (q_p49_6 h) rfl
theorem q_p49_7 (h : q_PI M) : ir_P M 49 7 = 53 := q_pt_of h 4 5 rfl rfl
theorem q_g49_7 (h : q_PI M) : ir_gp M 49 8 7 = true := q_gp0 h rfl (q_p49_7 h) rfl
theorem q_p49_8 (h : q_PI M) : ir_P M 49 8 = 54 := q_pt_of h 4 6 rfl rfl
theorem q_g49_8 (h : q_PI M) : ir_gp M 49 8 8 = true := q_gp0 h rfl (q_p49_8 h) rfl
theorem q_p55_4 (h : q_PI M) : ir_P M 55 4 = 56 := q_pt_of h 4 7 rfl rfl
theorem q_g55_4 (h : q_PI M) : ir_gp M 55 8 4 = true := q_gp0 h rfl (q_p55_4 h) rfl
theorem q_p55_5 (h : q_PI M) : ir_P M 55 5 = 57 := q_pt_of h 4 8 rfl rfl
theorem q_g55_5 (h : q_PI M) : ir_gp M 55 8 5 = true := q_gp0 h rfl (q_p55_5 h) rfl
theorem q_p55_6 (h : q_PI M) : ir_P M 55 6 = 58 := q_pt_of h 4 9 rfl rfl
theorem q_g55_6 (h : q_PI M) : ir_gp M 55 8 6 = true := q_gp0 h rfl (q_p55_6 h) rfl
theorem q_p55_7 (h : q_PI M) : ir_P M 55 7 = 59 := q_pt_of h 4 10 rfl rfl
theorem q_g55_7 (h : q_PI M) : ir_gp M 55 8 7 = true := q_gp0 h rfl (q_p55_7 h) rfl
theorem q_p55_8 (h : q_PI M) : ir_P M 55 8 = 60 := q_pt_of h 4 11 rfl rfl
theorem q_g55_8 (h : q_PI M) : ir_gp M 55 8 8 = true := q_gp0 h rfl (q_p55_8 h) rfl
theorem q_p61_4 (h : q_PI M) : ir_P M 61 4 = 62 := q_pt_of h 4 12 rfl rfl
theorem q_g61_4 (h : q_PI M) : ir_gp M 61 8 4 = true := q_gp0 h rfl (q_p61_4 h) rfl
theorem q_p61_5 (h : q_PI M) : ir_P M 61 5 = 63 := q_pt_of h 4 13 rfl rfl
theorem q_g61_5 (h : q_PI M) : ir_gp M 61 8 5 = true := q_gp0 h rfl (q_p61_5 h) rfl
theorem q_p61_6 (h : q_PI M) : ir_P M 61 6 = 64 := q_pt_of h 4 14 rfl rfl
theorem q_g61_6 (h : q_PI M) : ir_gp M 61 8 6 = true := q_gp0 h rfl (q_p61_6 h) rfl
theorem q_p61_7 (h : q_PI M) : ir_P M 61 7 = 65 := q_pt_of h 4 15 rfl rfl
theorem q_g61_7 (h : q_PI M) : ir_gp M 61 8 7 = true := q_gp0 h rfl (q_p61_7 h) rfl
theorem q_p61_8 (h : q_PI M) : ir_P M 61 8 = 66 := q_pt_of h 5 0 rfl rfl
theorem q_g61_8 (h : q_PI M) : ir_gp M 61 8 8 = true := q_gp0 h rfl (q_p61_8 h) rfl
theorem q_p67_4 (h : q_PI M) : ir_P M 67 4 = 68 := q_pt_of h 5 1 rfl rfl
theorem q_g67_4 (h : q_PI M) : ir_gp M 67 8 4 = true := q_gp0 h rfl (q_p67_4 h) rfl
theorem q_p67_5 (h : q_PI M) : ir_P M 67 5 = 69 := q_pt_of h 5 2 rfl rfl
theorem q_g67_5 (h : q_PI M) : ir_gp M 67 8 5 = true := q_gp0 h rfl (q_p67_5 h) rfl
theorem q_p67_6 (h : q_PI M) : ir_P M 67 6 = 70 := q_pt_of h 5 3 rfl rfl
theorem q_g67_6 (h : q_PI M) : ir_gp M 67 8 6 = true := q_gp0 h rfl (q_p67_6 h) rfl
theorem q_p67_7 (h : q_PI M) : ir_P M 67 7 = 71 := q_pt_of h 5 4 rfl rfl
theorem q_g67_7 (h : q_PI M) : ir_gp M 67 8 7 = true := q_gp0 h rfl (q_p67_7 h) rfl
theorem q_p67_8 (h : q_PI M) : ir_P M 67 8 = 72 := q_pt_of h 5 5 rfl rfl
theorem q_g67_8 (h : q_PI M) : ir_gp M 67 8 8 = true := q_gp0 h rfl (q_p67_8 h) rfl
theorem q_p73_4 (h : q_PI M) : ir_P M 73 4 = 74 := q_pt_of h 5 6 rfl rfl
theorem q_g73_4 (h : q_PI M) : ir_gp M 73 8 4 = true := q_gp0 h rfl (q_p73_4 h) rfl
theorem q_p73_5 (h : q_PI M) : ir_P M 73 5 = 75 := q_pt_of h 5 7 rfl rfl
theorem q_g73_5 (h : q_PI M) : ir_gp M 73 8 5 = true := q_gp0 h rfl (q_p73_5 h) rfl
theorem q_p73_6 (h : q_PI M) : ir_P M 73 6 = 76 := q_pt_of h 5 8 rfl rfl
theorem q_g73_6 (h : q_PI M) : ir_gp M 73 8 6 = true := q_gp0 h rfl (q_p73_6 h) rfl
theorem q_p73_7 (h : q_PI M) : ir_P M 73 7 = 77 := q_pt_of h 5 9 rfl rfl
theorem q_g73_7 (h : q_PI M) : ir_gp M 73 8 7 = true := q_gp0 h rfl (q_p73_7 h) rfl
theorem q_p73_8 (h : q_PI M) : ir_P M 73 8 = 78 := q_pt_of h 5 10 rfl rfl
theorem q_g73_8 (h : q_PI M) : ir_gp M 73 8 8 = true := q_gp0 h rfl (q_p73_8 h) rfl
theorem q_p79_4 (h : q_PI M) : ir_P M 79 4 = 80 := q_pt_of h 5 11 rfl rfl
theorem q_g79_4 (h : q_PI M) : ir_gp M 79 8 4 = true := q_gp0 h rfl (q_p79_4 h) rfl
theorem q_p79_5 (h : q_PI M) : ir_P M 79 5 = 81 := q_pt_of h 5 12 rfl rfl
theorem q_g79_5 (h : q_PI M) : ir_gp M 79 8 5 = true := q_gp0 h rfl (q_p79_5 h) rfl
theorem q_p79_6 (h : q_PI M) : ir_P M 79 6 = 82 := q_pt_of h 5 13 rfl rfl
theorem q_g79_6 (h : q_PI M) : ir_gp M 79 8 6 = true := q_gp0 h rfl (q_p79_6 h) rfl
theorem q_p79_7 (h : q_PI M) : ir_P M 79 7 = 83 := q_pt_of h 5 14 rfl rfl
theorem q_g79_7 (h : q_PI M) : ir_gp M 79 8 7 = true := q_gp0 h rfl (q_p79_7 h) rfl
theorem q_p79_8 (h : q_PI M) : ir_P M 79 8 = 84 := q_pt_of h 5 15 rfl rfl
theorem q_g79_8 (h : q_PI M) : ir_gp M 79 8 8 = true := q_gp0 h rfl (q_p79_8 h) rfl
theorem q_p85_4 (h : q_PI M) : ir_P M 85 4 = 86 := q_pt_of h 6 0 rfl rfl
theorem q_g85_4 (h : q_PI M) : ir_gp M 85 8 4 = true := q_gp0 h rfl (q_p85_4 h) rfl
theorem q_p85_5 (h : q_PI M) : ir_P M 85 5 = 87 := q_pt_of h 6 1 rfl rfl
theorem q_g85_5 (h : q_PI M) : ir_gp M 85 8 5 = true := q_gp0 h rfl (q_p85_5 h) rfl
theorem q_p85_6 (h : q_PI M) : ir_P M 85 6 = 88 := q_pt_of h 6 2 rfl rfl
theorem q_g85_6 (h : q_PI M) : ir_gp M 85 8 6 = true := q_gp0 h rfl (q_p85_6 h) rfl
theorem q_p85_7 (h : q_PI M) : ir_P M 85 7 = 89 := q_pt_of h 6 3 rfl rfl
theorem q_g85_7 (h : q_PI M) : ir_gp M 85 8 7 = true := q_gp0 h rfl (q_p85_7 h) rfl
theorem q_p85_8 (h : q_PI M) : ir_P M 85 8 = 90 := q_pt_of h 6 4 rfl rfl
theorem q_g85_8 (h : q_PI M) : ir_gp M 85 8 8 = true := q_gp0 h rfl (q_p85_8 h) rfl
theorem q_p91_4 (h : q_PI M) : ir_P M 91 4 = 92 := q_pt_of h 6 5 rfl rfl
theorem q_g91_4 (h : q_PI M) : ir_gp M 91 8 4 = true := q_gp0 h rfl (q_p91_4 h) rfl
theorem q_p91_5 (h : q_PI M) : ir_P M 91 5 = 93 := q_pt_of h 6 6 rfl rfl
theorem q_g91_5 (h : q_PI M) : ir_gp M 91 8 5 = true := q_gp0 h rfl (q_p91_5 h) rfl
theorem q_p91_6 (h : q_PI M) : ir_P M 91 6 = 94 := q_pt_of h 6 7 rfl rfl
theorem q_g91_6 (h : q_PI M) : ir_gp M 91 8 6 = true := q_gp0 h rfl (q_p91_6 h) rfl
theorem q_p91_7 (h : q_PI M) : ir_P M 91 7 = 95 := q_pt_of h 6 8 rfl rfl
theorem q_g91_7 (h : q_PI M) : ir_gp M 91 8 7 = true := q_gp0 h rfl (q_p91_7 h) rfl
theorem q_p91_8 (h : q_PI M) : ir_P M 91 8 = 96 := q_pt_of h 6 9 rfl rfl
theorem q_g91_8 (h : q_PI M) : ir_gp M 91 8 8 = true := q_gp0 h rfl (q_p91_8 h) rfl
theorem q_p97_0 (h : q_PI M) : ir_P M 97 0 = 140 := q_pt_of h 6 10 rfl rfl
theorem q_p97_1 (h : q_PI M) : ir_P M 97 1 = 228 := q_pt_of h 6 11 rfl rfl
theorem q_p97_2 (h : q_PI M) : ir_P M 97 2 = 316 := q_pt_of h 6 12 rfl rfl
theorem q_p99_0 (h : q_PI M) : ir_P M 99 0 = 404 := q_pt_of h 6 13 rfl rfl
theorem q_p99_1 (h : q_PI M) : ir_P M 99 1 = 406 := q_pt_of h 6 14 rfl rfl
theorem q_p99_2 (h : q_PI M) : ir_P M 99 2 = 408 := q_pt_of h 6 15 rfl rfl
theorem q_p99_3 (h : q_PI M) : ir_P M 99 3 = 410 := q_pt_of h 7 0 rfl rfl
theorem q_p100_2 (h : q_PI M) : ir_P M 100 2 = 101 := q_pt_of h 7 1 rfl rfl
theorem q_g100_2 (h : q_PI M) : ir_gp M 100 4 2 = true := q_gp0 h rfl (q_p100_2 h) rfl
theorem q_p100_3 (h : q_PI M) : ir_P M 100 3 = 109 := q_pt_of h 7 2 rfl rfl
theorem q_g100_3 (h : q_PI M) : ir_gp M 100 4 3 = true := q_gp0 h rfl (q_p100_3 h) rfl
theorem q_p100_4 (h : q_PI M) : ir_P M 100 4 = 115 := q_pt_of h 7 3 rfl rfl
theorem q_g100_4 (h : q_PI M) : ir_gp M 100 4 4 = true := q_gp0 h rfl (q_p100_4 h) rfl
theorem q_p101_7 (h : q_PI M) : ir_P M 101 7 = 102 := q_pt_of h 7 4 rfl rfl
theorem q_g101_7 (h : q_PI M) : ir_gp M 101 9 7 = true := q_gp0 h rfl (q_p101_7 h) rfl
theorem q_p101_8 (h : q_PI M) : ir_P M 101 8 = 103 := q_pt_of h 7 5 rfl rfl
theorem q_g101_8 (h : q_PI M) : ir_gp M 101 9 8 = true := q_gp0 h rfl (q_p101_8 h) rfl
theorem q_p101_9 (h : q_PI M) : ir_P M 101 9 = 104 := q_pt_of h 7 6 rfl rfl
theorem q_g101_9 (h : q_PI M) : ir_gp M 101 9 9 = true := q_gp0 h rfl (q_p101_9 h) rfl
theorem q_p101_10 (h : q_PI M) : ir_P M 101 10 = 107 := q_pt_of h 7 7 rfl rfl
theorem q_g101_10 (h : q_PI M) : ir_gp M 101 9 10 = true := q_gp0 h rfl (q_p101_10 h) rfl
theorem q_p101_11 (h : q_PI M) : ir_P M 101 11 = 108 := q_pt_of h 7 8 rfl rfl
theorem q_g101_11 (h : q_PI M) : ir_gp M 101 9 11 = true := q_gp0 h rfl (q_p101_11 h) rfl
theorem q_p104_1 (h : q_PI M) : ir_P M 104 1 = 105 := q_pt_of h 7 9 rfl rfl
theorem q_g104_1 (h : q_PI M) : ir_gp M 104 1 1 = true := q_gp0 h rfl (q_p104_1 h) rfl
theorem q_p104_2 (h : q_PI M) : ir_P M 104 2 = 106 := q_pt_of h 7 10 rfl rfl
theorem q_g104_2 (h : q_PI M) : ir_gp M 104 1 2 = true := q_gp0 h rfl (q_p104_2 h) rfl
theorem q_p109_4 (h : q_PI M) : ir_P M 109 4 = 110 := q_pt_of h 7 11 rfl rfl
theorem q_g109_4 (h : q_PI M) : ir_gp M 109 8 4 = true := q_gp0 h rfl (q_p109_4 h) rfl
theorem q_p109_5 (h : q_PI M) : ir_P M 109 5 = 111 := q_pt_of h 7 12 rfl rfl
theorem q_g109_5 (h : q_PI M) : ir_gp M 109 8 5 = true := q_gp0 h rfl (q_p109_5 h) rfl
theorem q_p109_6 (h : q_PI M) : ir_P M 109 6 = 112 := q_pt_of h 7 13 rfl rfl
theorem q_g109_6 (h : q_PI M) : ir_gp M 109 8 6 = true := q_gp0 h rfl (q_p109_6 h) rfl
theorem q_p109_7 (h : q_PI M) : ir_P M 109 7 = 113 := q_pt_of h 7 14 rfl rfl
theorem q_g109_7 (h : q_PI M) : ir_gp M 109 8 7 = true := q_gp0 h rfl (q_p109_7 h) rfl
theorem q_p109_8 (h : q_PI M) : ir_P M 109 8 = 114 := q_pt_of h 7 15 rfl rfl
theorem q_g109_8 (h : q_PI M) : ir_gp M 109 8 8 = true := q_gp0 h rfl (q_p109_8 h) rfl
theorem q_p116_0 (h : q_PI M) : ir_P M 116 0 = 117 := q_pt_of h 8 0 rfl rfl
theorem q_g116_0 (h : q_PI M) : ir_gp M 116 0 0 = true := q_gp0 h rfl (q_p116_0 h) rfl
theorem q_p116_1 (h : q_PI M) : ir_P M 116 1 = 118 := q_pt_of h 8 1 rfl rfl
theorem q_g116_1 (h : q_PI M) : ir_gp M 116 0 1 = true := q_gp0 h rfl (q_p116_1 h) rfl
theorem q_p116_2 (h : q_PI M) : ir_P M 116 2 = 119 := q_pt_of h 8 2 rfl rfl
theorem q_g116_2 (h : q_PI M) : ir_gp M 116 0 2 = true := q_gp0 h rfl (q_p116_2 h) rfl
theorem q_p116_3 (h : q_PI M) : ir_P M 116 3 = 120 := q_pt_of h 8 3 rfl rfl
theorem q_g116_3 (h : q_PI M) : ir_gp M 116 0 3 = true := q_gp0 h rfl (q_p116_3 h) rfl
theorem q_p121_4 (h : q_PI M) : ir_P M 121 4 = 122 := q_pt_of h 8 4 rfl rfl
theorem q_g121_4 (h : q_PI M) : ir_gp M 121 2 4 = true := q_gp0 h rfl (q_p121_4 h) rfl
theorem q_p121_6 (h : q_PI M) : ir_P M 121 6 = 123 := q_pt_of h 8 5 rfl rfl
theorem q_g121_6 (h : q_PI M) : ir_gp M 121 2 6 = true := q_gp0 h rfl (q_p121_6 h) rfl
theorem q_p121_7 (h : q_PI M) : ir_P M 121 7 = 124 := q_pt_of h 8 6 rfl rfl
theorem q_g121_7 (h : q_PI M) : ir_gp M 121 2 7 = true := q_gp0 h rfl (q_p121_7 h) rfl
theorem q_p125_1 (h : q_PI M) : ir_P M 125 1 = 126 := q_pt_of h 8 7 rfl rfl
theorem q_g125_1 (h : q_PI M) : ir_gp M 125 3 1 = true := q_gp0 h rfl (q_p125_1 h) rfl
theorem q_p125_5 (h : q_PI M) : ir_P M 125 5 = 127 := q_pt_of h 8 8 rfl rfl
theorem q_g125_5 (h : q_PI M) : ir_gp M 125 3 5 = true := q_gp0 h rfl (q_p125_5 h) rfl
theorem q_p125_6 (h : q_PI M) : ir_P M 125 6 = 128 := q_pt_of h 8 9 rfl rfl
theorem q_g125_6 (h : q_PI M) : ir_gp M 125 3 6 = true := q_gp0 h rfl (q_p125_6 h) rfl
theorem q_p129_0 (h : q_PI M) : ir_P M 129 0 = 130 := q_pt_of h 8 10 rfl rfl
theorem q_g129_0 (h : q_PI M) : ir_gp M 129 7 0 = true := q_gp0 h rfl (q_p129_0 h) rfl
theorem q_p129_1 (h : q_PI M) : ir_P M 129 1 = 131 := q_pt_of h 8 11 rfl rfl
theorem q_g129_1 (h : q_PI M) : ir_gp M 129 7 1 = true := q_gp0 h rfl (q_p129_1 h) rfl
theorem q_p129_2 (h : q_PI M) : ir_P M 129 2 = 132 := q_pt_of h 8 12 rfl rfl
theorem q_g129_2 (h : q_PI M) : ir_gp M 129 7 2 = true := q_gp0 h rfl (q_p129_2 h) rfl
theorem q_p133_0 (h : q_PI M) : ir_P M 133 0 = 134 := q_pt_of h 8 13 rfl rfl
theorem q_g133_0 (h : q_PI M) : ir_gp M 133 6 0 = true := q_gp0 h rfl (q_p133_0 h) rfl
theorem q_p133_1 (h : q_PI M) : ir_P M 133 1 = 135 := q_pt_of h 8 14 rfl rfl
theorem q_g133_1 (h : q_PI M) : ir_gp M 133 6 1 = true := q_gp0 h rfl (q_p133_1 h) rfl
theorem q_p133_2 (h : q_PI M) : ir_P M 133 2 = 136 := q_pt_of h 8 15 rfl rfl
theorem q_g133_2 (h : q_PI M) : ir_gp M 133 6 2 = true := q_gp0 h rfl (q_p133_2 h) rfl
theorem q_p133_3 (h : q_PI M) : ir_P M 133 3 = 137 := q_pt_of h 9 0 rfl rfl
theorem q_g133_3 (h : q_PI M) : ir_gp M 133 6 3 = true := q_gp0 h rfl (q_p133_3 h) rfl
theorem q_p140_0 (h : q_PI M) : ir_P M 140 0 = 141 := q_pt_of h 9 1 rfl rfl
theorem q_g140_0 (h : q_PI M) : ir_gp M 140 5 0 = true := q_gp0 h rfl (q_p140_0 h) rfl
theorem q_p140_1 (h : q_PI M) : ir_P M 140 1 = 149 := q_pt_of h 9 2 rfl rfl
theorem q_g140_1 (h : q_PI M) : ir_gp M 140 5 1 = true := q_gp0 h rfl (q_p140_1 h) rfl
theorem q_p140_4 (h : q_PI M) : ir_P M 140 4 = 155 := q_pt_of h 9 3 rfl rfl
theorem q_g140_4 (h : q_PI M) : ir_gp M 140 5 4 = true := q_gp0 h rfl (q_p140_4 h) rfl
theorem q_p141_7 (h : q_PI M) : ir_P M 141 7 = 142 := q_pt_of h 9 4 rfl rfl
theorem q_g141_7 (h : q_PI M) : ir_gp M 141 9 7 = true := q_gp0 h rfl (q_p141_7 h) rfl
theorem q_p141_8 (h : q_PI M) : ir_P M 141 8 = 143 := q_pt_of h 9 5 rfl rfl
theorem q_g141_8 (h : q_PI M) : ir_gp M 141 9 8 = true := q_gp0 h rfl (q_p141_8 h) rfl
theorem q_p141_9 (h : q_PI M) : ir_P M 141 9 = 144 := q_pt_of h 9 6 rfl rfl
theorem q_g141_9 (h : q_PI M) : ir_gp M 141 9 9 = true := q_gp0 h rfl (q_p141_9 h) rfl
theorem q_p141_10 (h : q_PI M) : ir_P M 141 10 = 147 := q_pt_of h 9 7 rfl rfl
theorem q_g141_10 (h : q_PI M) : ir_gp M 141 9 10 = true := q_gp0 h rfl (q_p141_10 h) rfl
theorem q_p141_11 (h : q_PI M) : ir_P M 141 11 = 148 := q_pt_of h 9 8 rfl rfl
theorem q_g141_11 (h : q_PI M) : ir_gp M 141 9 11 = true := q_gp0 h rfl (q_p141_11 h) rfl
theorem q_p144_1 (h : q_PI M) : ir_P M 144 1 = 145 := q_pt_of h 9 9 rfl rfl
theorem q_g144_1 (h : q_PI M) : ir_gp M 144 1 1 = true := q_gp0 h rfl (q_p144_1 h) rfl
theorem q_p144_2 (h : q_PI M) : ir_P M 144 2 = 146 := q_pt_of h 9 10 rfl rfl
theorem q_g144_2 (h : q_PI M) : ir_gp M 144 1 2 = true := q_gp0 h rfl (q_p144_2 h) rfl
theorem q_p149_4 (h : q_PI M) : ir_P M 149 4 = 150 := q_pt_of h 9 11 rfl rfl
theorem q_g149_4 (h : q_PI M) : ir_gp M 149 8 4 = true := q_gp0 h rfl (q_p149_4 h) rfl
theorem q_p149_5 (h : q_PI M) : ir_P M 149 5 = 151 := q_pt_of h 9 12 rfl rfl
theorem q_g149_5 (h : q_PI M) : ir_gp M 149 8 5 = true := q_gp0 h rfl (q_p149_5 h) rfl
theorem q_p149_6 (h : q_PI M) : ir_P M 149 6 = 152 := q_pt_of h 9 13 rfl rfl
theorem q_g149_6 (h : q_PI M) : ir_gp M 149 8 6 = true := q_gp0 h rfl (q_p149_6 h) rfl
theorem q_p149_7 (h : q_PI M) : ir_P M 149 7 = 153 := q_pt_of h 9 14 rfl rfl
theorem q_g149_7 (h : q_PI M) : ir_gp M 149 8 7 = true := q_gp0 h rfl (q_p149_7 h) rfl
theorem q_p149_8 (h : q_PI M) : ir_P M 149 8 = 154 := q_pt_of h 9 15 rfl rfl
theorem q_g149_8 (h : q_PI M) : ir_gp M 149 8 8 = true := q_gp0 h rfl (q_p149_8 h) rfl
theorem q_p155_0 (h : q_PI M) : ir_P M 155 0 = 156 := q_pt_of h 10 0 rfl rfl
theorem q_p155_1 (h : q_PI M) : ir_P M 155 1 = 162 := q_pt_of h 10 1 rfl rfl
theorem q_p155_2 (h : q_PI M) : ir_P M 155 2 = 168 := q_pt_of h 10 2 rfl rfl
theorem q_p155_3 (h : q_PI M) : ir_P M 155 3 = 174 := q_pt_of h 10 3 rfl rfl
theorem q_p155_4 (h : q_PI M) : ir_P M 155 4 = 180 := q_pt_of h 10 4 rfl rfl
theorem q_p155_5 (h : q_PI M) : ir_P M 155 5 = 186 := q_pt_of h 10 5 rfl rfl
theorem q_p155_6 (h : q_PI M) : ir_P M 155 6 = 192 := q_pt_of h 10 6 rfl rfl
theorem q_p155_7 (h : q_PI M) : ir_P M 155 7 = 198 := q_pt_of h 10 7 rfl rfl
theorem q_p155_8 (h : q_PI M) : ir_P M 155 8 = 204 := q_pt_of h 10 8 rfl rfl
theorem q_p155_9 (h : q_PI M) : ir_P M 155 9 = 210 := q_pt_of h 10 9 rfl rfl
theorem q_p155_10 (h : q_PI M) : ir_P M 155 10 = 216 := q_pt_of h 10 10 rfl rfl
theorem q_p155_11 (h : q_PI M) : ir_P M 155 11 = 222 := q_pt_of h 10 11 rfl rfl
theorem q_p156_4 (h : q_PI M) : ir_P M 156 4 = 157 := q_pt_of h 10 12 rfl rfl
theorem q_g156_4 (h : q_PI M) : ir_gp M 156 8 4 = true := q_gp0 h rfl (q_p156_4 h) rfl
theorem q_p156_5 (h : q_PI M) : ir_P M 156 5 = 158 := q_pt_of h 10 13 rfl rfl
theorem q_g156_5 (h : q_PI M) : ir_gp M 156 8 5 = true := q_gp0 h rfl (q_p156_5 h) rfl
theorem q_p156_6 (h : q_PI M) : ir_P M 156 6 = 159 := q_pt_of h 10 14 rfl rfl
theorem q_g156_6 (h : q_PI M) : ir_gp M 156 8 6 = true := q_gp0 h rfl (q_p156_6 h) rfl
theorem q_p156_7 (h : q_PI M) : ir_P M 156 7 = 160 := q_pt_of h 10 15 rfl rfl
theorem q_g156_7 (h : q_PI M) : ir_gp M 156 8 7 = true := q_gp0 h rfl (q_p156_7 h) rfl
theorem q_p156_8 (h : q_PI M) : ir_P M 156 8 = 161 := q_pt_of h 11 0 rfl rfl
theorem q_g156_8 (h : q_PI M) : ir_gp M 156 8 8 = true := q_gp0 h rfl (q_p156_8 h) rfl
theorem q_p162_4 (h : q_PI M) : ir_P M 162 4 = 163 := q_pt_of h 11 1 rfl rfl
theorem q_g162_4 (h : q_PI M) : ir_gp M 162 8 4 = true := q_gp0 h rfl (q_p162_4 h) rfl
theorem q_p162_5 (h : q_PI M) : ir_P M 162 5 = 164 := q_pt_of h 11 2 rfl rfl
theorem q_g162_5 (h : q_PI M) : ir_gp M 162 8 5 = true := q_gp0 h rfl (q_p162_5 h) rfl
theorem q_p162_6 (h : q_PI M) : ir_P M 162 6 = 165 := q_pt_of h 11 3 rfl rfl
theorem q_g162_6 (h : q_PI M) : ir_gp M 162 8 6 = true := q_gp0 h rfl (q_p162_6 h) rfl
theorem q_p162_7 (h : q_PI M) : ir_P M 162 7 = 166 := q_pt_of h 11 4 rfl rfl
theorem q_g162_7 (h : q_PI M) : ir_gp M 162 8 7 = true := q_gp0 h rfl (q_p162_7 h) rfl
theorem q_p162_8 (h : q_PI M) : ir_P M 162 8 = 167 := q_pt_of h 11 5 rfl rfl
theorem q_g162_8 (h : q_PI M) : ir_gp M 162 8 8 = true := q_gp0 h rfl (q_p162_8 h) rfl
theorem q_p168_4 (h : q_PI M) : ir_P M 168 4 = 169 := q_pt_of h 11 6 rfl rfl
theorem q_g168_4 (h : q_PI M) : ir_gp M 168 8 4 = true := q_gp0 h rfl (q_p168_4 h) rfl
theorem q_p168_5 (h : q_PI M) : ir_P M 168 5 = 170 := q_pt_of h 11 7 rfl rfl
theorem q_g168_5 (h : q_PI M) : ir_gp M 168 8 5 = true := q_gp0 h rfl (q_p168_5 h) rfl
theorem q_p168_6 (h : q_PI M) : ir_P M 168 6 = 171 := q_pt_of h 11 8 rfl rfl
theorem q_g168_6 (h : q_PI M) : ir_gp M 168 8 6 = true := q_gp0 h rfl (q_p168_6 h) rfl
theorem q_p168_7 (h : q_PI M) : ir_P M 168 7 = 172 := q_pt_of h 11 9 rfl rfl
theorem q_g168_7 (h : q_PI M) : ir_gp M 168 8 7 = true := q_gp0 h rfl (q_p168_7 h) rfl
theorem q_p168_8 (h : q_PI M) : ir_P M 168 8 = 173 := q_pt_of h 11 10 rfl rfl
theorem q_g168_8 (h : q_PI M) : ir_gp M 168 8 8 = true := q_gp0 h rfl (q_p168_8 h) rfl
theorem q_p174_4 (h : q_PI M) : ir_P M 174 4 = 175 := q_pt_of h 11 11 rfl rfl
theorem q_g174_4 (h : q_PI M) : ir_gp M 174 8 4 = true := q_gp0 h rfl (q_p174_4 h) rfl
theorem q_p174_5 (h : q_PI M) : ir_P M 174 5 = 176 := q_pt_of h 11 12 rfl rfl
theorem q_g174_5 (h : q_PI M) : ir_gp M 174 8 5 = true := q_gp0 h rfl (q_p174_5 h) rfl
theorem q_p174_6 (h : q_PI M) : ir_P M 174 6 = 177 := q_pt_of h 11 13 rfl rfl
theorem q_g174_6 (h : q_PI M) : ir_gp M 174 8 6 = true := q_gp0 h rfl (q_p174_6 h) rfl
theorem q_p174_7 (h : q_PI M) : ir_P M 174 7 = 178 := q_pt_of h 11 14 rfl rfl
theorem q_g174_7 (h : q_PI M) : ir_gp M 174 8 7 = true := q_gp0 h rfl (q_p174_7 h) rfl
theorem q_p174_8 (h : q_PI M) : ir_P M 174 8 = 179 := q_pt_of h 11 15 rfl rfl
theorem q_g174_8 (h : q_PI M) : ir_gp M 174 8 8 = true := q_gp0 h rfl (q_p174_8 h) rfl
theorem q_p180_4 (h : q_PI M) : ir_P M 180 4 = 181 := q_pt_of h 12 0 rfl rfl
theorem q_g180_4 (h : q_PI M) : ir_gp M 180 8 4 = true := q_gp0 h rfl (q_p180_4 h) rfl
theorem q_p180_5 (h : q_PI M) : ir_P M 180 5 = 182 := q_pt_of h 12 1 rfl rfl
theorem q_g180_5 (h : q_PI M) : ir_gp M 180 8 5 = true := q_gp0 h rfl (q_p180_5 h) rfl
theorem q_p180_6 (h : q_PI M) : ir_P M 180 6 = 183 := q_pt_of h 12 2 rfl rfl
theorem q_g180_6 (h : q_PI M) : ir_gp M 180 8 6 = true := q_gp0 h rfl (q_p180_6 h) rfl
theorem q_p180_7 (h : q_PI M) : ir_P M 180 7 = 184 := q_pt_of h 12 3 rfl rfl
theorem q_g180_7 (h : q_PI M) : ir_gp M 180 8 7 = true := q_gp0 h rfl (q_p180_7 h) rfl
theorem q_p180_8 (h : q_PI M) : ir_P M 180 8 = 185 := q_pt_of h 12 4 rfl rfl
theorem q_g180_8 (h : q_PI M) : ir_gp M 180 8 8 = true := q_gp0 h rfl (q_p180_8 h) rfl
theorem q_p186_4 (h : q_PI M) : ir_P M 186 4 = 187 := q_pt_of h 12 5 rfl rfl
theorem q_g186_4 (h : q_PI M) : ir_gp M 186 8 4 = true := q_gp0 h rfl (q_p186_4 h) rfl
theorem q_p186_5 (h : q_PI M) : ir_P M 186 5 = 188 := q_pt_of h 12 6 rfl rfl
theorem q_g186_5 (h : q_PI M) : ir_gp M 186 8 5 = true := q_gp0 h rfl (q_p186_5 h) rfl
theorem q_p186_6 (h : q_PI M) : ir_P M 186 6 = 189 := q_pt_of h 12 7 rfl rfl
theorem q_g186_6 (h : q_PI M) : ir_gp M 186 8 6 = true := q_gp0 h rfl (q_p186_6 h) rfl
theorem q_p186_7 (h : q_PI M) : ir_P M 186 7 = 190 := q_pt_of h 12 8 rfl rfl
theorem q_g186_7 (h : q_PI M) : ir_gp M 186 8 7 = true := q_gp0 h rfl (q_p186_7 h) rfl
theorem q_p186_8 (h : q_PI M) : ir_P M 186 8 = 191 := q_pt_of h 12 9 rfl rfl
theorem q_g186_8 (h : q_PI M) : ir_gp M 186 8 8 = true := q_gp0 h rfl (q_p186_8 h) rfl
theorem q_p192_4 (h : q_PI M) : ir_P M 192 4 = 193 := q_pt_of h 12 10 rfl rfl
theorem q_g192_4 (h : q_PI M) : ir_gp M 192 8 4 = true := q_gp0 h rfl (q_p192_4 h) rfl
theorem q_p192_5 (h : q_PI M) : ir_P M 192 5 = 194 := q_pt_of h 12 11 rfl rfl
theorem q_g192_5 (h : q_PI M) : ir_gp M 192 8 5 = true := q_gp0 h rfl (q_p192_5 h) rfl
theorem q_p192_6 (h : q_PI M) : ir_P M 192 6 = 195 := q_pt_of h 12 12 rfl rfl
theorem q_g192_6 (h : q_PI M) : ir_gp M 192 8 6 = true := q_gp0 h rfl (q_p192_6 h) rfl
theorem q_p192_7 (h : q_PI M) : ir_P M 192 7 = 196 := q_pt_of h 12 13 rfl rfl
theorem q_g192_7 (h : q_PI M) : ir_gp M 192 8 7 = true := q_gp0 h rfl (q_p192_7 h) rfl
theorem q_p192_8 (h : q_PI M) : ir_P M 192 8 = 197 := q_pt_of h 12 14 rfl rfl
theorem q_g192_8 (h : q_PI M) : ir_gp M 192 8 8 = true := q_gp0 h rfl (q_p192_8 h) rfl
theorem q_p198_4 (h : q_PI M) : ir_P M 198 4 = 199 := q_pt_of h 12 15 rfl rfl
theorem q_g198_4 (h : q_PI M) : ir_gp M 198 8 4 = true := q_gp0 h rfl (q_p198_4 h) rfl
theorem q_p198_5 (h : q_PI M) : ir_P M 198 5 = 200 := q_pt_of h 13 0 rfl rfl
theorem q_g198_5 (h : q_PI M) : ir_gp M 198 8 5 = true := q_gp0 h rfl (q_p198_5 h) rfl
theorem q_p198_6 (h : q_PI M) : ir_P M 198 6 = 201 := q_pt_of h 13 1 rfl rfl
theorem q_g198_6 (h : q_PI M) : ir_gp M 198 8 6 = true := q_gp0 h rfl (q_p198_6 h) rfl
theorem q_p198_7 (h : q_PI M) : ir_P M 198 7 = 202 := q_pt_of h 13 2 rfl rfl
theorem q_g198_7 (h : q_PI M) : ir_gp M 198 8 7 = true := q_gp0 h rfl (q_p198_7 h) rfl
theorem q_p198_8 (h : q_PI M) : ir_P M 198 8 = 203 := q_pt_of h 13 3 rfl rfl
theorem q_g198_8 (h : q_PI M) : ir_gp M 198 8 8 = true := q_gp0 h rfl (q_p198_8 h) rfl
theorem q_p204_4 (h : q_PI M) : ir_P M 204 4 = 205 := q_pt_of h 13 4 rfl rfl
theorem q_g204_4 (h : q_PI M) : ir_gp M 204 8 4 = true := q_gp0 h rfl (q_p204_4 h) rfl
theorem q_p204_5 (h : q_PI M) : ir_P M 204 5 = 206 := q_pt_of h 13 5 rfl rfl
theorem q_g204_5 (h : q_PI M) : ir_gp M 204 8 5 = true := q_gp0 h rfl (q_p204_5 h) rfl
theorem q_p204_6 (h : q_PI M) : ir_P M 204 6 = 207 := q_pt_of h 13 6 rfl rfl
theorem q_g204_6 (h : q_PI M) : ir_gp M 204 8 6 = true := q_gp0 h rfl (q_p204_6 h) rfl
theorem q_p204_7 (h : q_PI M) : ir_P M 204 7 = 208 := q_pt_of h 13 7 rfl rfl
theorem q_g204_7 (h : q_PI M) : ir_gp M 204 8 7 = true := q_gp0 h rfl (q_p204_7 h) rfl
theorem q_p204_8 (h : q_PI M) : ir_P M 204 8 = 209 := q_pt_of h 13 8 rfl rfl
theorem q_g204_8 (h : q_PI M) : ir_gp M 204 8 8 = true := q_gp0 h rfl (q_p204_8 h) rfl
theorem q_p210_4 (h : q_PI M) : ir_P M 210 4 = 211 := q_pt_of h 13 9 rfl rfl
theorem q_g210_4 (h : q_PI M) : ir_gp M 210 8 4 = true := q_gp0 h rfl (q_p210_4 h) rfl
theorem q_p210_5 (h : q_PI M) : ir_P M 210 5 = 212 := q_pt_of h 13 10 rfl rfl
theorem q_g210_5 (h : q_PI M) : ir_gp M 210 8 5 = true := q_gp0 h rfl (q_p210_5 h) rfl
theorem q_p210_6 (h : q_PI M) : ir_P M 210 6 = 213 := q_pt_of h 13 11 rfl rfl
theorem q_g210_6 (h : q_PI M) : ir_gp M 210 8 6 = true := q_gp0 h rfl (q_p210_6 h) rfl
theorem q_p210_7 (h : q_PI M) : ir_P M 210 7 = 214 := q_pt_of h 13 12 rfl rfl
theorem q_g210_7 (h : q_PI M) : ir_gp M 210 8 7 = true := q_gp0 h rfl (q_p210_7 h) rfl
theorem q_p210_8 (h : q_PI M) : ir_P M 210 8 = 215 := q_pt_of h 13 13 rfl rfl
theorem q_g210_8 (h : q_PI M) : ir_gp M 210 8 8 = true := q_gp0 h rfl (q_p210_8 h) rfl
theorem q_p216_4 (h : q_PI M) : ir_P M 216 4 = 217 := q_pt_of h 13 14 rfl rfl
theorem q_g216_4 (h : q_PI M) : ir_gp M 216 8 4 = true := q_gp0 h rfl (q_p216_4 h) rfl
theorem q_p216_5 (h : q_PI M) : ir_P M 216 5 = 218 := q_pt_of h 13 15 rfl rfl
theorem q_g216_5 (h : q_PI M) : ir_gp M 216 8 5 = true := q_gp0 h rfl (q_p216_5 h) rfl
theorem q_p216_6 (h : q_PI M) : ir_P M 216 6 = 219 := q_pt_of h 14 0 rfl rfl
theorem q_g216_6 (h : q_PI M) : ir_gp M 216 8 6 = true := q_gp0 h rfl (q_p216_6 h) rfl
theorem q_p216_7 (h : q_PI M) : ir_P M 216 7 = 220 := q_pt_of h 14 1 rfl rfl
theorem q_g216_7 (h : q_PI M) : ir_gp M 216 8 7 = true := q_gp0 h rfl (q_p216_7 h) rfl
theorem q_p216_8 (h : q_PI M) : ir_P M 216 8 = 221 := q_pt_of h 14 2 rfl rfl
theorem q_g216_8 (h : q_PI M) : ir_gp M 216 8 8 = true := q_gp0 h rfl (q_p216_8 h) rfl
theorem q_p222_4 (h : q_PI M) : ir_P M 222 4 = 223 := q_pt_of h 14 3 rfl rfl
theorem q_g222_4 (h : q_PI M) : ir_gp M 222 8 4 = true := q_gp0 h rfl (q_p222_4 h) rfl
theorem q_p222_5 (h : q_PI M) : ir_P M 222 5 = 224 := q_pt_of h 14 4 rfl rfl
theorem q_g222_5 (h : q_PI M) : ir_gp M 222 8 5 = true := q_gp0 h rfl (q_p222_5 h) rfl
theorem q_p222_6 (h : q_PI M) : ir_P M 222 6 = 225 := q_pt_of h 14 5 rfl rfl
theorem q_g222_6 (h : q_PI M) : ir_gp M 222 8 6 = true := q_gp0 h rfl (q_p222_6 h) rfl
theorem q_p222_7 (h : q_PI M) : ir_P M 222 7 = 226 := q_pt_of h 14 6 rfl rfl
theorem q_g222_7 (h : q_PI M) : ir_gp M 222 8 7 = true := q_gp0 h rfl (q_p222_7 h) rfl
theorem q_p222_8 (h : q_PI M) : ir_P M 222 8 = 227 := q_pt_of h 14 7 rfl rfl
theorem q_g222_8 (h : q_PI M) : ir_gp M 222 8 8 = true := q_gp0 h rfl (q_p222_8 h) rfl
theorem q_p228_0 (h : q_PI M) : ir_P M 228 0 = 229 := q_pt_of h 14 8 rfl rfl
theorem q_g228_0 (h : q_PI M) : ir_gp M 228 5 0 = true := q_gp0 h rfl (q_p228_0 h) rfl
theorem q_p228_1 (h : q_PI M) : ir_P M 228 1 = 237 := q_pt_of h 14 9 rfl rfl
theorem q_g228_1 (h : q_PI M) : ir_gp M 228 5 1 = true := q_gp0 h rfl (q_p228_1 h) rfl
theorem q_p228_4 (h : q_PI M) : ir_P M 228 4 = 243 := q_pt_of h 14 10 rfl rfl
theorem q_g228_4 (h : q_PI M) : ir_gp M 228 5 4 = true := q_gp0 h rfl (q_p228_4 h) rfl
theorem q_p229_7 (h : q_PI M) : ir_P M 229 7 = 230 := q_pt_of h 14 11 rfl rfl
theorem q_g229_7 (h : q_PI M) : ir_gp M 229 9 7 = true := q_gp0 h rfl (q_p229_7 h) rfl
theorem q_p229_8 (h : q_PI M) : ir_P M 229 8 = 231 := q_pt_of h 14 12 rfl rfl
theorem q_g229_8 (h : q_PI M) : ir_gp M 229 9 8 = true := q_gp0 h rfl (q_p229_8 h) rfl
theorem q_p229_9 (h : q_PI M) : ir_P M 229 9 = 232 := q_pt_of h 14 13 rfl rfl
theorem q_g229_9 (h : q_PI M) : ir_gp M 229 9 9 = true := q_gp0 h rfl (q_p229_9 h) rfl
theorem q_p229_10 (h : q_PI M) : ir_P M 229 10 = 235 := q_pt_of h 14 14 rfl rfl
theorem q_g229_10 (h : q_PI M) : ir_gp M 229 9 10 = true := q_gp0 h rfl (q_p229_10 h) rfl
theorem q_p229_11 (h : q_PI M) : ir_P M 229 11 = 236 := q_pt_of h 14 15 rfl rfl
theorem q_g229_11 (h : q_PI M) : ir_gp M 229 9 11 = true := q_gp0 h rfl (q_p229_11 h) rfl
theorem q_p232_1 (h : q_PI M) : ir_P M 232 1 = 233 := q_pt_of h 15 0 rfl rfl
theorem q_g232_1 (h : q_PI M) : ir_gp M 232 1 1 = true := q_gp0 h rfl (q_p232_1 h) rfl
theorem q_p232_2 (h : q_PI M) : ir_P M 232 2 = 234 := q_pt_of h 15 1 rfl rfl
theorem q_g232_2 (h : q_PI M) : ir_gp M 232 1 2 = true := q_gp0 h rfl (q_p232_2 h) rfl
theorem q_p237_4 (h : q_PI M) : ir_P M 237 4 = 238 := q_pt_of h 15 2 rfl rfl
theorem q_g237_4 (h : q_PI M) : ir_gp M 237 8 4 = true := q_gp0 h rfl (q_p237_4 h) rfl
theorem q_p237_5 (h : q_PI M) : ir_P M 237 5 = 239 := q_pt_of h 15 3 rfl rfl
theorem q_g237_5 (h : q_PI M) : ir_gp M 237 8 5 = true := q_gp0 h rfl (q_p237_5 h) rfl
theorem q_p237_6 (h : q_PI M) : ir_P M 237 6 = 240 := q_pt_of h 15 4 rfl rfl
theorem q_g237_6 (h : q_PI M) : ir_gp M 237 8 6 = true := q_gp0 h rfl (q_p237_6 h) rfl
theorem q_p237_7 (h : q_PI M) : ir_P M 237 7 = 241 := q_pt_of h 15 5 rfl rfl
theorem q_g237_7 (h : q_PI M) : ir_gp M 237 8 7 = true := q_gp0 h rfl (q_p237_7 h) rfl
theorem q_p237_8 (h : q_PI M) : ir_P M 237 8 = 242 := q_pt_of h 15 6 rfl rfl
theorem q_g237_8 (h : q_PI M) : ir_gp M 237 8 8 = true := q_gp0 h rfl (q_p237_8 h) rfl
theorem q_p243_0 (h : q_PI M) : ir_P M 243 0 = 244 := q_pt_of h 15 7 rfl rfl
theorem q_p243_1 (h : q_PI M) : ir_P M 243 1 = 250 := q_pt_of h 15 8 rfl rfl
theorem q_p243_2 (h : q_PI M) : ir_P M 243 2 = 256 := q_pt_of h 15 9 rfl rfl
theorem q_p243_3 (h : q_PI M) : ir_P M 243 3 = 262 := q_pt_of h 15 10 rfl rfl
theorem q_p243_4 (h : q_PI M) : ir_P M 243 4 = 268 := q_pt_of h 15 11 rfl rfl
theorem q_p243_5 (h : q_PI M) : ir_P M 243 5 = 274 := q_pt_of h 15 12 rfl rfl
theorem q_p243_6 (h : q_PI M) : ir_P M 243 6 = 280 := q_pt_of h 15 13 rfl rfl
theorem q_p243_7 (h : q_PI M) : ir_P M 243 7 = 286 := q_pt_of h 15 14 rfl rfl
theorem q_p243_8 (h : q_PI M) : ir_P M 243 8 = 292 := q_pt_of h 15 15 rfl rfl
theorem q_p243_9 (h : q_PI M) : ir_P M 243 9 = 298 := q_pt_of h 16 0 rfl rfl
theorem q_p243_10 (h : q_PI M) : ir_P M 243 10 = 304 := q_pt_of h 16 1 rfl rfl
theorem q_p243_11 (h : q_PI M) : ir_P M 243 11 = 310 := q_pt_of h 16 2 rfl rfl
theorem q_p244_4 (h : q_PI M) : ir_P M 244 4 = 245 := q_pt_of h 16 3 rfl rfl
theorem q_g244_4 (h : q_PI M) : ir_gp M 244 8 4 = true := q_gp0 h rfl (q_p244_4 h) rfl
theorem q_p244_5 (h : q_PI M) : ir_P M 244 5 = 246 := q_pt_of h 16 4 rfl rfl
theorem q_g244_5 (h : q_PI M) : ir_gp M 244 8 5 = true := q_gp0 h rfl (q_p244_5 h) rfl
theorem q_p244_6 (h : q_PI M) : ir_P M 244 6 = 247 := q_pt_of h 16 5 rfl rfl
theorem q_g244_6 (h : q_PI M) : ir_gp M 244 8 6 = true := q_gp0 h rfl (q_p244_6 h) rfl
theorem q_p244_7 (h : q_PI M) : ir_P M 244 7 = 248 := q_pt_of h 16 6 rfl rfl
theorem q_g244_7 (h : q_PI M) : ir_gp M 244 8 7 = true := q_gp0 h rfl (q_p244_7 h) rfl
theorem q_p244_8 (h : q_PI M) : ir_P M 244 8 = 249 := q_pt_of h 16 7 rfl rfl
theorem q_g244_8 (h : q_PI M) : ir_gp M 244 8 8 = true := q_gp0 h rfl (q_p244_8 h) rfl
theorem q_p250_4 (h : q_PI M) : ir_P M 250 4 = 251 := q_pt_of h 16 8 rfl rfl
theorem q_g250_4 (h : q_PI M) : ir_gp M 250 8 4 = true := q_gp0 h rfl (q_p250_4 h) rfl
theorem q_p250_5 (h : q_PI M) : ir_P M 250 5 = 252 := q_pt_of h 16 9 rfl rfl
theorem q_g250_5 (h : q_PI M) : ir_gp M 250 8 5 = true := q_gp0 h rfl (q_p250_5 h) rfl
theorem q_p250_6 (h : q_PI M) : ir_P M 250 6 = 253 := q_pt_of h 16 10 rfl rfl
theorem q_g250_6 (h : q_PI M) : ir_gp M 250 8 6 = true := q_gp0 h rfl (q_p250_6 h) rfl
theorem q_p250_7 (h : q_PI M) : ir_P M 250 7 = 254 := q_pt_of h 16 11 rfl rfl
theorem q_g250_7 (h : q_PI M) : ir_gp M 250 8 7 = true := q_gp0 h rfl (q_p250_7 h) rfl
theorem q_p250_8 (h : q_PI M) : ir_P M 250 8 = 255 := q_pt_of h 16 12 rfl rfl
theorem q_g250_8 (h : q_PI M) : ir_gp M 250 8 8 = true := q_gp0 h rfl (q_p250_8 h) rfl
theorem q_p256_4 (h : q_PI M) : ir_P M 256 4 = 257 := q_pt_of h 16 13 rfl rfl
theorem q_g256_4 (h : q_PI M) : ir_gp M 256 8 4 = true := q_gp0 h rfl (q_p256_4 h) rfl
theorem q_p256_5 (h : q_PI M) : ir_P M 256 5 = 258 := q_pt_of h 16 14 rfl rfl
theorem q_g256_5 (h : q_PI M) : ir_gp M 256 8 5 = true := q_gp0 h rfl (q_p256_5 h) rfl
theorem q_p256_6 (h : q_PI M) : ir_P M 256 6 = 259 := q_pt_of h 16 15 rfl rfl
theorem q_g256_6 (h : q_PI M) : ir_gp M 256 8 6 = true := q_gp0 h rfl (q_p256_6 h) rfl
theorem q_p256_7 (h : q_PI M) : ir_P M 256 7 = 260 := q_pt_of h 17 0 rfl rfl
theorem q_g256_7 (h : q_PI M) : ir_gp M 256 8 7 = true := q_gp0 h rfl (q_p256_7 h) rfl
theorem q_p256_8 (h : q_PI M) : ir_P M 256 8 = 261 := q_pt_of h 17 1 rfl rfl
theorem q_g256_8 (h : q_PI M) : ir_gp M 256 8 8 = true := q_gp0 h rfl (q_p256_8 h) rfl
theorem q_p262_4 (h : q_PI M) : ir_P M 262 4 = 263 := q_pt_of h 17 2 rfl rfl
theorem q_g262_4 (h : q_PI M) : ir_gp M 262 8 4 = true := q_gp0 h rfl (q_p262_4 h) rfl
theorem q_p262_5 (h : q_PI M) : ir_P M 262 5 = 264 := q_pt_of h 17 3 rfl rfl
theorem q_g262_5 (h : q_PI M) : ir_gp M 262 8 5 = true := q_gp0 h rfl (q_p262_5 h) rfl
theorem q_p262_6 (h : q_PI M) : ir_P M 262 6 = 265 := q_pt_of h 17 4 rfl rfl
theorem q_g262_6 (h : q_PI M) : ir_gp M 262 8 6 = true := q_gp0 h rfl (q_p262_6 h) rfl
theorem q_p262_7 (h : q_PI M) : ir_P M 262 7 = 266 := q_pt_of h 17 5 rfl rfl
theorem q_g262_7 (h : q_PI M) : ir_gp M 262 8 7 = true := q_gp0 h rfl (q_p262_7 h) rfl
theorem q_p262_8 (h : q_PI M) : ir_P M 262 8 = 267 := q_pt_of h 17 6 rfl rfl
theorem q_g262_8 (h : q_PI M) : ir_gp M 262 8 8 = true := q_gp0 h rfl (q_p262_8 h) rfl
theorem q_p268_4 (h : q_PI M) : ir_P M 268 4 = 269 := q_pt_of h 17 7 rfl rfl
theorem q_g268_4 (h : q_PI M) : ir_gp M 268 8 4 = true := q_gp0 h rfl (q_p268_4 h) rfl
theorem q_p268_5 (h : q_PI M) : ir_P M 268 5 = 270 := q_pt_of h 17 8 rfl rfl
theorem q_g268_5 (h : q_PI M) : ir_gp M 268 8 5 = true := q_gp0 h rfl (q_p268_5 h) rfl
theorem q_p268_6 (h : q_PI M) : ir_P M 268 6 = 271 := q_pt_of h 17 9 rfl rfl
theorem q_g268_6 (h : q_PI M) : ir_gp M 268 8 6 = true := q_gp0 h rfl (q_p268_6 h) rfl
theorem q_p268_7 (h : q_PI M) : ir_P M 268 7 = 272 := q_pt_of h 17 10 rfl rfl
theorem q_g268_7 (h : q_PI M) : ir_gp M 268 8 7 = true := q_gp0 h rfl (q_p268_7 h) rfl
theorem q_p268_8 (h : q_PI M) : ir_P M 268 8 = 273 := q_pt_of h 17 11 rfl rfl
theorem q_g268_8 (h : q_PI M) : ir_gp M 268 8 8 = true := q_gp0 h rfl (q_p268_8 h) rfl
theorem q_p274_4 (h : q_PI M) : ir_P M 274 4 = 275 := q_pt_of h 17 12 rfl rfl
theorem q_g274_4 (h : q_PI M) : ir_gp M 274 8 4 = true := q_gp0 h rfl (q_p274_4 h) rfl
theorem q_p274_5 (h : q_PI M) : ir_P M 274 5 = 276 := q_pt_of h 17 13 rfl rfl
theorem q_g274_5 (h : q_PI M) : ir_gp M 274 8 5 = true := q_gp0 h rfl (q_p274_5 h) rfl
theorem q_p274_6 (h : q_PI M) : ir_P M 274 6 = 277 := q_pt_of h 17 14 rfl rfl
theorem q_g274_6 (h : q_PI M) : ir_gp M 274 8 6 = true := q_gp0 h rfl (q_p274_6 h) rfl
theorem q_p274_7 (h : q_PI M) : ir_P M 274 7 = 278 := q_pt_of h 17 15 rfl rfl
theorem q_g274_7 (h : q_PI M) : ir_gp M 274 8 7 = true := q_gp0 h rfl (q_p274_7 h) rfl
theorem q_p274_8 (h : q_PI M) : ir_P M 274 8 = 279 := q_pt_of h 18 0 rfl rfl
theorem q_g274_8 (h : q_PI M) : ir_gp M 274 8 8 = true := q_gp0 h rfl (q_p274_8 h) rfl
theorem q_p280_4 (h : q_PI M) : ir_P M 280 4 = 281 := q_pt_of h 18 1 rfl rfl
theorem q_g280_4 (h : q_PI M) : ir_gp M 280 8 4 = true := q_gp0 h rfl (q_p280_4 h) rfl
theorem q_p280_5 (h : q_PI M) : ir_P M 280 5 = 282 := q_pt_of h 18 2 rfl rfl
theorem q_g280_5 (h : q_PI M) : ir_gp M 280 8 5 = true := q_gp0 h rfl (q_p280_5 h) rfl
theorem q_p280_6 (h : q_PI M) : ir_P M 280 6 = 283 := q_pt_of h 18 3 rfl rfl
theorem q_g280_6 (h : q_PI M) : ir_gp M 280 8 6 = true := q_gp0 h rfl (q_p280_6 h) rfl
theorem q_p280_7 (h : q_PI M) : ir_P M 280 7 = 284 := q_pt_of h 18 4 rfl rfl
theorem q_g280_7 (h : q_PI M) : ir_gp M 280 8 7 = true := q_gp0 h rfl (q_p280_7 h) rfl
theorem q_p280_8 (h : q_PI M) : ir_P M 280 8 = 285 := q_pt_of h 18 5 rfl rfl
theorem q_g280_8 (h : q_PI M) : ir_gp M 280 8 8 = true := q_gp0 h rfl (q_p280_8 h) rfl
theorem q_p286_4 (h : q_PI M) : ir_P M 286 4 = 287 := q_pt_of h 18 6 rfl rfl
theorem q_g286_4 (h : q_PI M) : ir_gp M 286 8 4 = true := q_gp0 h rfl (q_p286_4 h) rfl
theorem q_p286_5 (h : q_PI M) : ir_P M 286 5 = 288 := q_pt_of h 18 7 rfl rfl
theorem q_g286_5 (h : q_PI M) : ir_gp M 286 8 5 = true := q_gp0 h rfl (q_p286_5 h) rfl
theorem q_p286_6 (h : q_PI M) : ir_P M 286 6 = 289 := q_pt_of h 18 8 rfl rfl
theorem q_g286_6 (h : q_PI M) : ir_gp M 286 8 6 = true := q_gp0 h rfl (q_p286_6 h) rfl
theorem q_p286_7 (h : q_PI M) : ir_P M 286 7 = 290 := q_pt_of h 18 9 rfl rfl
theorem q_g286_7 (h : q_PI M) : ir_gp M 286 8 7 = true := q_gp0 h rfl (q_p286_7 h) rfl
theorem q_p286_8 (h : q_PI M) : ir_P M 286 8 = 291 := q_pt_of h 18 10 rfl rfl
theorem q_g286_8 (h : q_PI M) : ir_gp M 286 8 8 = true := q_gp0 h rfl (q_p286_8 h) rfl
theorem q_p292_4 (h : q_PI M) : ir_P M 292 4 = 293 := q_pt_of h 18 11 rfl rfl
theorem q_g292_4 (h : q_PI M) : ir_gp M 292 8 4 = true := q_gp0 h rfl (q_p292_4 h) rfl
theorem q_p292_5 (h : q_PI M) : ir_P M 292 5 = 294 := q_pt_of h 18 12 rfl rfl
theorem q_g292_5 (h : q_PI M) : ir_gp M 292 8 5 = true := q_gp0 h rfl (q_p292_5 h) rfl
theorem q_p292_6 (h : q_PI M) : ir_P M 292 6 = 295 := q_pt_of h 18 13 rfl rfl
theorem q_g292_6 (h : q_PI M) : ir_gp M 292 8 6 = true := q_gp0 h rfl (q_p292_6 h) rfl
theorem q_p292_7 (h : q_PI M) : ir_P M 292 7 = 296 := q_pt_of h 18 14 rfl rfl
theorem q_g292_7 (h : q_PI M) : ir_gp M 292 8 7 = true := q_gp0 h rfl (q_p292_7 h) rfl
theorem q_p292_8 (h : q_PI M) : ir_P M 292 8 = 297 := q_pt_of h 18 15 rfl rfl
theorem q_g292_8 (h : q_PI M) : ir_gp M 292 8 8 = true := q_gp0 h rfl (q_p292_8 h) rfl
theorem q_p298_4 (h : q_PI M) : ir_P M 298 4 = 299 := q_pt_of h 19 0 rfl rfl
theorem q_g298_4 (h : q_PI M) : ir_gp M 298 8 4 = true := q_gp0 h rfl (q_p298_4 h) rfl
theorem q_p298_5 (h : q_PI M) : ir_P M 298 5 = 300 := q_pt_of h 19 1 rfl rfl
theorem q_g298_5 (h : q_PI M) : ir_gp M 298 8 5 = true := q_gp0 h rfl (q_p298_5 h) rfl
theorem q_p298_6 (h : q_PI M) : ir_P M 298 6 = 301 := q_pt_of h 19 2 rfl rfl
theorem q_g298_6 (h : q_PI M) : ir_gp M 298 8 6 = true := q_gp0 h rfl (q_p298_6 h) rfl
theorem q_p298_7 (h : q_PI M) : ir_P M 298 7 = 302 := q_pt_of h 19 3 rfl rfl
theorem q_g298_7 (h : q_PI M) : ir_gp M 298 8 7 = true := q_gp0 h rfl (q_p298_7 h) rfl
theorem q_p298_8 (h : q_PI M) : ir_P M 298 8 = 303 := q_pt_of h 19 4 rfl rfl
theorem q_g298_8 (h : q_PI M) : ir_gp M 298 8 8 = true := q_gp0 h rfl (q_p298_8 h) rfl
theorem q_p304_4 (h : q_PI M) : ir_P M 304 4 = 305 := q_pt_of h 19 5 rfl rfl
theorem q_g304_4 (h : q_PI M) : ir_gp M 304 8 4 = true := q_gp0 h rfl (q_p304_4 h) rfl
theorem q_p304_5 (h : q_PI M) : ir_P M 304 5 = 306 := q_pt_of h 19 6 rfl rfl
theorem q_g304_5 (h : q_PI M) : ir_gp M 304 8 5 = true := q_gp0 h rfl (q_p304_5 h) rfl
theorem q_p304_6 (h : q_PI M) : ir_P M 304 6 = 307 := q_pt_of h 19 7 rfl rfl
theorem q_g304_6 (h : q_PI M) : ir_gp M 304 8 6 = true := q_gp0 h rfl (q_p304_6 h) rfl
theorem q_p304_7 (h : q_PI M) : ir_P M 304 7 = 308 := q_pt_of h 19 8 rfl rfl
theorem q_g304_7 (h : q_PI M) : ir_gp M 304 8 7 = true := q_gp0 h rfl (q_p304_7 h) rfl
theorem q_p304_8 (h : q_PI M) : ir_P M 304 8 = 309 := q_pt_of h 19 9 rfl rfl
theorem q_g304_8 (h : q_PI M) : ir_gp M 304 8 8 = true := q_gp0 h rfl (q_p304_8 h) rfl
theorem q_p310_4 (h : q_PI M) : ir_P M 310 4 = 311 := q_pt_of h 19 10 rfl rfl
theorem q_g310_4 (h : q_PI M) : ir_gp M 310 8 4 = true := q_gp0 h rfl (q_p310_4 h) rfl
theorem q_p310_5 (h : q_PI M) : ir_P M 310 5 = 312 := q_pt_of h 19 11 rfl rfl
theorem q_g310_5 (h : q_PI M) : ir_gp M 310 8 5 = true := q_gp0 h rfl (q_p310_5 h) rfl
theorem q_p310_6 (h : q_PI M) : ir_P M 310 6 = 313 := q_pt_of h 19 12 rfl rfl
theorem q_g310_6 (h : q_PI M) : ir_gp M 310 8 6 = true := q_gp0 h rfl (q_p310_6 h) rfl
theorem q_p310_7 (h : q_PI M) : ir_P M 310 7 = 314 := q_pt_of h 19 13 rfl rfl
theorem q_g310_7 (h : q_PI M) : ir_gp M 310 8 7 = true := q_gp0 h rfl (q_p310_7 h) rfl
theorem q_p310_8 (h : q_PI M) : ir_P M 310 8 = 315 := q_pt_of h 19 14 rfl rfl
theorem q_g310_8 (h : q_PI M) : ir_gp M 310 8 8 = true := q_gp0 h rfl (q_p310_8 h) rfl
theorem q_p316_0 (h : q_PI M) : ir_P M 316 0 = 317 := q_pt_of h 19 15 rfl rfl
theorem q_g316_0 (h : q_PI M) : ir_gp M 316 5 0 = true := q_gp0 h rfl (q_p316_0 h) rfl
theorem q_p316_1 (h : q_PI M) : ir_P M 316 1 = 325 := q_pt_of h 20 0 rfl rfl
theorem q_g316_1 (h : q_PI M) : ir_gp M 316 5 1 = true := q_gp0 h rfl (q_p316_1 h) rfl
theorem q_p316_4 (h : q_PI M) : ir_P M 316 4 = 331 := q_pt_of h 20 1 rfl rfl
theorem q_g316_4 (h : q_PI M) : ir_gp M 316 5 4 = true := q_gp0 h rfl (q_p316_4 h) rfl
theorem q_p317_7 (h : q_PI M) : ir_P M 317 7 = 318 := q_pt_of h 20 2 rfl rfl
theorem q_g317_7 (h : q_PI M) : ir_gp M 317 9 7 = true := q_gp0 h rfl (q_p317_7 h) rfl
theorem q_p317_8 (h : q_PI M) : ir_P M 317 8 = 319 := q_pt_of h 20 3 rfl rfl
theorem q_g317_8 (h : q_PI M) : ir_gp M 317 9 8 = true := q_gp0 h rfl (q_p317_8 h) rfl
theorem q_p317_9 (h : q_PI M) : ir_P M 317 9 = 320 := q_pt_of h 20 4 rfl rfl
theorem q_g317_9 (h : q_PI M) : ir_gp M 317 9 9 = true := q_gp0 h rfl (q_p317_9 h) rfl
theorem q_p317_10 (h : q_PI M) : ir_P M 317 10 = 323 := q_pt_of h 20 5 rfl rfl
theorem q_g317_10 (h : q_PI M) : ir_gp M 317 9 10 = true := q_gp0 h rfl (q_p317_10 h) rfl
theorem q_p317_11 (h : q_PI M) : ir_P M 317 11 = 324 := q_pt_of h 20 6 rfl rfl
theorem q_g317_11 (h : q_PI M) : ir_gp M 317 9 11 = true := q_gp0 h rfl (q_p317_11 h) rfl
theorem q_p320_1 (h : q_PI M) : ir_P M 320 1 = 321 := q_pt_of h 20 7 rfl rfl
theorem q_g320_1 (h : q_PI M) : ir_gp M 320 1 1 = true := q_gp0 h rfl (q_p320_1 h) rfl
theorem q_p320_2 (h : q_PI M) : ir_P M 320 2 = 322 := q_pt_of h 20 8 rfl rfl
theorem q_g320_2 (h : q_PI M) : ir_gp M 320 1 2 = true := q_gp0 h rfl (q_p320_2 h) rfl
theorem q_p325_4 (h : q_PI M) : ir_P M 325 4 = 326 := q_pt_of h 20 9 rfl rfl
theorem q_g325_4 (h : q_PI M) : ir_gp M 325 8 4 = true := q_gp0 h rfl (q_p325_4 h) rfl
theorem q_p325_5 (h : q_PI M) : ir_P M 325 5 = 327 := q_pt_of h 20 10 rfl rfl
theorem q_g325_5 (h : q_PI M) : ir_gp M 325 8 5 = true := q_gp0 h rfl (q_p325_5 h) rfl
theorem q_p325_6 (h : q_PI M) : ir_P M 325 6 = 328 := q_pt_of h 20 11 rfl rfl
theorem q_g325_6 (h : q_PI M) : ir_gp M 325 8 6 = true := q_gp0 h rfl (q_p325_6 h) rfl
theorem q_p325_7 (h : q_PI M) : ir_P M 325 7 = 329 := q_pt_of h 20 12 rfl rfl
theorem q_g325_7 (h : q_PI M) : ir_gp M 325 8 7 = true := q_gp0 h rfl (q_p325_7 h) rfl
theorem q_p325_8 (h : q_PI M) : ir_P M 325 8 = 330 := q_pt_of h 20 13 rfl rfl
theorem q_g325_8 (h : q_PI M) : ir_gp M 325 8 8 = true := q_gp0 h rfl (q_p325_8 h) rfl
theorem q_p331_0 (h : q_PI M) : ir_P M 331 0 = 332 := q_pt_of h 20 14 rfl rfl
theorem q_p331_1 (h : q_PI M) : ir_P M 331 1 = 338 := q_pt_of h 20 15 rfl rfl
theorem q_p331_2 (h : q_PI M) : ir_P M 331 2 = 344 := q_pt_of h 21 0 rfl rfl
theorem q_p331_3 (h : q_PI M) : ir_P M 331 3 = 350 := q_pt_of h 21 1 rfl rfl
theorem q_p331_4 (h : q_PI M) : ir_P M 331 4 = 356 := q_pt_of h 21 2 rfl rfl
theorem q_p331_5 (h : q_PI M) : ir_P M 331 5 = 362 := q_pt_of h 21 3 rfl rfl
theorem q_p331_6 (h : q_PI M) : ir_P M 331 6 = 368 := q_pt_of h 21 4 rfl rfl
theorem q_p331_7 (h : q_PI M) : ir_P M 331 7 = 374 := q_pt_of h 21 5 rfl rfl
theorem q_p331_8 (h : q_PI M) : ir_P M 331 8 = 380 := q_pt_of h 21 6 rfl rfl
theorem q_p331_9 (h : q_PI M) : ir_P M 331 9 = 386 := q_pt_of h 21 7 rfl rfl
theorem q_p331_10 (h : q_PI M) : ir_P M 331 10 = 392 := q_pt_of h 21 8 rfl rfl
theorem q_p331_11 (h : q_PI M) : ir_P M 331 11 = 398 := q_pt_of h 21 9 rfl rfl
theorem q_p332_4 (h : q_PI M) : ir_P M 332 4 = 333 := q_pt_of h 21 10 rfl rfl
theorem q_g332_4 (h : q_PI M) : ir_gp M 332 8 4 = true := q_gp0 h rfl (q_p332_4 h) rfl
theorem q_p332_5 (h : q_PI M) : ir_P M 332 5 = 334 := q_pt_of h 21 11 rfl rfl
theorem q_g332_5 (h : q_PI M) : ir_gp M 332 8 5 = true := q_gp0 h rfl (q_p332_5 h) rfl
theorem q_p332_6 (h : q_PI M) : ir_P M 332 6 = 335 := q_pt_of h 21 12 rfl rfl
theorem q_g332_6 (h : q_PI M) : ir_gp M 332 8 6 = true := q_gp0 h rfl (q_p332_6 h) rfl
theorem q_p332_7 (h : q_PI M) : ir_P M 332 7 = 336 := q_pt_of h 21 13 rfl rfl
theorem q_g332_7 (h : q_PI M) : ir_gp M 332 8 7 = true := q_gp0 h rfl (q_p332_7 h) rfl
theorem q_p332_8 (h : q_PI M) : ir_P M 332 8 = 337 := q_pt_of h 21 14 rfl rfl
theorem q_g332_8 (h : q_PI M) : ir_gp M 332 8 8 = true := q_gp0 h rfl (q_p332_8 h) rfl
theorem q_p338_4 (h : q_PI M) : ir_P M 338 4 = 339 := q_pt_of h 21 15 rfl rfl
theorem q_g338_4 (h : q_PI M) : ir_gp M 338 8 4 = true := q_gp0 h rfl (q_p338_4 h) rfl
theorem q_p338_5 (h : q_PI M) : ir_P M 338 5 = 340 := q_pt_of h 22 0 rfl rfl
theorem q_g338_5 (h : q_PI M) : ir_gp M 338 8 5 = true := q_gp0 h rfl (q_p338_5 h) rfl
theorem q_p338_6 (h : q_PI M) : ir_P M 338 6 = 341 := q_pt_of h 22 1 rfl rfl
theorem q_g338_6 (h : q_PI M) : ir_gp M 338 8 6 = true := q_gp0 h rfl (q_p338_6 h) rfl
theorem q_p338_7 (h : q_PI M) : ir_P M 338 7 = 342 := q_pt_of h 22 2 rfl rfl
theorem q_g338_7 (h : q_PI M) : ir_gp M 338 8 7 = true := q_gp0 h rfl (q_p338_7 h) rfl
theorem q_p338_8 (h : q_PI M) : ir_P M 338 8 = 343 := q_pt_of h 22 3 rfl rfl
theorem q_g338_8 (h : q_PI M) : ir_gp M 338 8 8 = true := q_gp0 h rfl (q_p338_8 h) rfl
theorem q_p344_4 (h : q_PI M) : ir_P M 344 4 = 345 := q_pt_of h 22 4 rfl rfl
theorem q_g344_4 (h : q_PI M) : ir_gp M 344 8 4 = true := q_gp0 h rfl (q_p344_4 h) rfl
theorem q_p344_5 (h : q_PI M) : ir_P M 344 5 = 346 := q_pt_of h 22 5 rfl rfl
theorem q_g344_5 (h : q_PI M) : ir_gp M 344 8 5 = true := q_gp0 h rfl (q_p344_5 h) rfl
theorem q_p344_6 (h : q_PI M) : ir_P M 344 6 = 347 := q_pt_of h 22 6 rfl rfl
theorem q_g344_6 (h : q_PI M) : ir_gp M 344 8 6 = true := q_gp0 h rfl (q_p344_6 h) rfl
theorem q_p344_7 (h : q_PI M) : ir_P M 344 7 = 348 := q_pt_of h 22 7 rfl rfl
theorem q_g344_7 (h : q_PI M) : ir_gp M 344 8 7 = true := q_gp0 h rfl (q_p344_7 h) rfl
theorem q_p344_8 (h : q_PI M) : ir_P M 344 8 = 349 := q_pt_of h 22 8 rfl rfl
theorem q_g344_8 (h : q_PI M) : ir_gp M 344 8 8 = true := q_gp0 h rfl (q_p344_8 h) rfl
theorem q_p350_4 (h : q_PI M) : ir_P M 350 4 = 351 := q_pt_of h 22 9 rfl rfl
theorem q_g350_4 (h : q_PI M) : ir_gp M 350 8 4 = true := q_gp0 h rfl (q_p350_4 h) rfl
theorem q_p350_5 (h : q_PI M) : ir_P M 350 5 = 352 := q_pt_of h 22 10 rfl rfl
theorem q_g350_5 (h : q_PI M) : ir_gp M 350 8 5 = true := q_gp0 h rfl (q_p350_5 h) rfl
theorem q_p350_6 (h : q_PI M) : ir_P M 350 6 = 353 := q_pt_of h 22 11 rfl rfl
theorem q_g350_6 (h : q_PI M) : ir_gp M 350 8 6 = true := q_gp0 h rfl (q_p350_6 h) rfl
theorem q_p350_7 (h : q_PI M) : ir_P M 350 7 = 354 := q_pt_of h 22 12 rfl rfl
theorem q_g350_7 (h : q_PI M) : ir_gp M 350 8 7 = true := q_gp0 h rfl (q_p350_7 h) rfl
theorem q_p350_8 (h : q_PI M) : ir_P M 350 8 = 355 := q_pt_of h 22 13 rfl rfl
theorem q_g350_8 (h : q_PI M) : ir_gp M 350 8 8 = true := q_gp0 h rfl (q_p350_8 h) rfl
theorem q_p356_4 (h : q_PI M) : ir_P M 356 4 = 357 := q_pt_of h 22 14 rfl rfl
theorem q_g356_4 (h : q_PI M) : ir_gp M 356 8 4 = true := q_gp0 h rfl (q_p356_4 h) rfl
theorem q_p356_5 (h : q_PI M) : ir_P M 356 5 = 358 := q_pt_of h 22 15 rfl rfl
theorem q_g356_5 (h : q_PI M) : ir_gp M 356 8 5 = true := q_gp0 h rfl (q_p356_5 h) rfl
theorem q_p356_6 (h : q_PI M) : ir_P M 356 6 = 359 := q_pt_of h 23 0 rfl rfl
theorem q_g356_6 (h : q_PI M) : ir_gp M 356 8 6 = true := q_gp0 h rfl (q_p356_6 h) rfl
theorem q_p356_7 (h : q_PI M) : ir_P M 356 7 = 360 := q_pt_of h 23 1 rfl rfl
theorem q_g356_7 (h : q_PI M) : ir_gp M 356 8 7 = true := q_gp0 h rfl (q_p356_7 h) rfl
theorem q_p356_8 (h : q_PI M) : ir_P M 356 8 = 361 := q_pt_of h 23 2 rfl rfl
theorem q_g356_8 (h : q_PI M) : ir_gp M 356 8 8 = true := q_gp0 h rfl (q_p356_8 h) rfl
theorem q_p362_4 (h : q_PI M) : ir_P M 362 4 = 363 := q_pt_of h 23 3 rfl rfl
theorem q_g362_4 (h : q_PI M) : ir_gp M 362 8 4 = true := q_gp0 h rfl (q_p362_4 h) rfl
theorem q_p362_5 (h : q_PI M) : ir_P M 362 5 = 364 := q_pt_of h 23 4 rfl rfl
theorem q_g362_5 (h : q_PI M) : ir_gp M 362 8 5 = true := q_gp0 h rfl (q_p362_5 h) rfl
theorem q_p362_6 (h : q_PI M) : ir_P M 362 6 = 365 := q_pt_of h 23 5 rfl rfl
theorem q_g362_6 (h : q_PI M) : ir_gp M 362 8 6 = true := q_gp0 h rfl (q_p362_6 h) rfl
theorem q_p362_7 (h : q_PI M) : ir_P M 362 7 = 366 := q_pt_of h 23 6 rfl rfl
theorem q_g362_7 (h : q_PI M) : ir_gp M 362 8 7 = true := q_gp0 h rfl (q_p362_7 h) rfl
theorem q_p362_8 (h : q_PI M) : ir_P M 362 8 = 367 := q_pt_of h 23 7 rfl rfl
theorem q_g362_8 (h : q_PI M) : ir_gp M 362 8 8 = true := q_gp0 h rfl (q_p362_8 h) rfl
theorem q_p368_4 (h : q_PI M) : ir_P M 368 4 = 369 := q_pt_of h 23 8 rfl rfl
theorem q_g368_4 (h : q_PI M) : ir_gp M 368 8 4 = true := q_gp0 h rfl (q_p368_4 h) rfl
theorem q_p368_5 (h : q_PI M) : ir_P M 368 5 = 370 := q_pt_of h 23 9 rfl rfl
theorem q_g368_5 (h : q_PI M) : ir_gp M 368 8 5 = true := q_gp0 h rfl (q_p368_5 h) rfl
theorem q_p368_6 (h : q_PI M) : ir_P M 368 6 = 371 := q_pt_of h 23 10 rfl rfl
theorem q_g368_6 (h : q_PI M) : ir_gp M 368 8 6 = true := q_gp0 h rfl (q_p368_6 h) rfl
theorem q_p368_7 (h : q_PI M) : ir_P M 368 7 = 372 := q_pt_of h 23 11 rfl rfl
theorem q_g368_7 (h : q_PI M) : ir_gp M 368 8 7 = true := q_gp0 h rfl (q_p368_7 h) rfl
theorem q_p368_8 (h : q_PI M) : ir_P M 368 8 = 373 := q_pt_of h 23 12 rfl rfl
theorem q_g368_8 (h : q_PI M) : ir_gp M 368 8 8 = true := q_gp0 h rfl (q_p368_8 h) rfl
theorem q_p374_4 (h : q_PI M) : ir_P M 374 4 = 375 := q_pt_of h 23 13 rfl rfl
theorem q_g374_4 (h : q_PI M) : ir_gp M 374 8 4 = true := q_gp0 h rfl (q_p374_4 h) rfl
theorem q_p374_5 (h : q_PI M) : ir_P M 374 5 = 376 := q_pt_of h 23 14 rfl rfl
theorem q_g374_5 (h : q_PI M) : ir_gp M 374 8 5 = true := q_gp0 h rfl (q_p374_5 h) rfl
theorem q_p374_6 (h : q_PI M) : ir_P M 374 6 = 377 := q_pt_of h 23 15 rfl rfl
theorem q_g374_6 (h : q_PI M) : ir_gp M 374 8 6 = true := q_gp0 h rfl (q_p374_6 h) rfl
theorem q_p374_7 (h : q_PI M) : ir_P M 374 7 = 378 := q_pt_of h 24 0 rfl rfl
theorem q_g374_7 (h : q_PI M) : ir_gp M 374 8 7 = true := q_gp0 h rfl (q_p374_7 h) rfl
theorem q_p374_8 (h : q_PI M) : ir_P M 374 8 = 379 := q_pt_of h 24 1 rfl rfl
theorem q_g374_8 (h : q_PI M) : ir_gp M 374 8 8 = true := q_gp0 h rfl (q_p374_8 h) rfl
theorem q_p380_4 (h : q_PI M) : ir_P M 380 4 = 381 := q_pt_of h 24 2 rfl rfl
theorem q_g380_4 (h : q_PI M) : ir_gp M 380 8 4 = true := q_gp0 h rfl (q_p380_4 h) rfl
theorem q_p380_5 (h : q_PI M) : ir_P M 380 5 = 382 := q_pt_of h 24 3 rfl rfl
theorem q_g380_5 (h : q_PI M) : ir_gp M 380 8 5 = true := q_gp0 h rfl (q_p380_5 h) rfl
theorem q_p380_6 (h : q_PI M) : ir_P M 380 6 = 383 := q_pt_of h 24 4 rfl rfl
theorem q_g380_6 (h : q_PI M) : ir_gp M 380 8 6 = true := q_gp0 h rfl (q_p380_6 h) rfl
theorem q_p380_7 (h : q_PI M) : ir_P M 380 7 = 384 := q_pt_of h 24 5 rfl rfl
theorem q_g380_7 (h : q_PI M) : ir_gp M 380 8 7 = true := q_gp0 h rfl (q_p380_7 h) rfl
theorem q_p380_8 (h : q_PI M) : ir_P M 380 8 = 385 := q_pt_of h 24 6 rfl rfl
theorem q_g380_8 (h : q_PI M) : ir_gp M 380 8 8 = true := q_gp0 h rfl (q_p380_8 h) rfl
theorem q_p386_4 (h : q_PI M) : ir_P M 386 4 = 387 := q_pt_of h 24 7 rfl rfl
theorem q_g386_4 (h : q_PI M) : ir_gp M 386 8 4 = true := q_gp0 h rfl (q_p386_4 h) rfl
theorem q_p386_5 (h : q_PI M) : ir_P M 386 5 = 388 := q_pt_of h 24 8 rfl rfl
theorem q_g386_5 (h : q_PI M) : ir_gp M 386 8 5 = true := q_gp0 h rfl (q_p386_5 h) rfl
theorem q_p386_6 (h : q_PI M) : ir_P M 386 6 = 389 := q_pt_of h 24 9 rfl rfl
theorem q_g386_6 (h : q_PI M) : ir_gp M 386 8 6 = true := q_gp0 h rfl (q_p386_6 h) rfl
theorem q_p386_7 (h : q_PI M) : ir_P M 386 7 = 390 := q_pt_of h 24 10 rfl rfl
theorem q_g386_7 (h : q_PI M) : ir_gp M 386 8 7 = true := q_gp0 h rfl (q_p386_7 h) rfl
theorem q_p386_8 (h : q_PI M) : ir_P M 386 8 = 391 := q_pt_of h 24 11 rfl rfl
theorem q_g386_8 (h : q_PI M) : ir_gp M 386 8 8 = true := q_gp0 h rfl (q_p386_8 h) rfl
theorem q_p392_4 (h : q_PI M) : ir_P M 392 4 = 393 := q_pt_of h 24 12 rfl rfl
theorem q_g392_4 (h : q_PI M) : ir_gp M 392 8 4 = true := q_gp0 h rfl (q_p392_4 h) rfl
theorem q_p392_5 (h : q_PI M) : ir_P M 392 5 = 394 := q_pt_of h 24 13 rfl rfl
theorem q_g392_5 (h : q_PI M) : ir_gp M 392 8 5 = true := q_gp0 h rfl (q_p392_5 h) rfl
theorem q_p392_6 (h : q_PI M) : ir_P M 392 6 = 395 := q_pt_of h 24 14 rfl rfl
theorem q_g392_6 (h : q_PI M) : ir_gp M 392 8 6 = true := q_gp0 h rfl (q_p392_6 h) rfl
theorem q_p392_7 (h : q_PI M) : ir_P M 392 7 = 396 := q_pt_of h 24 15 rfl rfl
theorem q_g392_7 (h : q_PI M) : ir_gp M 392 8 7 = true := q_gp0 h rfl (q_p392_7 h) rfl
theorem q_p392_8 (h : q_PI M) : ir_P M 392 8 = 397 := q_pt_of h 25 0 rfl rfl
theorem q_g392_8 (h : q_PI M) : ir_gp M 392 8 8 = true := q_gp0 h rfl (q_p392_8 h) rfl
theorem q_p398_4 (h : q_PI M) : ir_P M 398 4 = 399 := q_pt_of h 25 1 rfl rfl
theorem q_g398_4 (h : q_PI M) : ir_gp M 398 8 4 = true := q_gp0 h rfl (q_p398_4 h) rfl
theorem q_p398_5 (h : q_PI M) : ir_P M 398 5 = 400 := q_pt_of h 25 2 rfl rfl
theorem q_g398_5 (h : q_PI M) : ir_gp M 398 8 5 = true := q_gp0 h rfl (q_p398_5 h) rfl
theorem q_p398_6 (h : q_PI M) : ir_P M 398 6 = 401 := q_pt_of h 25 3 rfl rfl
theorem q_g398_6 (h : q_PI M) : ir_gp M 398 8 6 = true := q_gp0 h rfl (q_p398_6 h) rfl
theorem q_p398_7 (h : q_PI M) : ir_P M 398 7 = 402 := q_pt_of h 25 4 rfl rfl
theorem q_g398_7 (h : q_PI M) : ir_gp M 398 8 7 = true := q_gp0 h rfl (q_p398_7 h) rfl
theorem q_p398_8 (h : q_PI M) : ir_P M 398 8 = 403 := q_pt_of h 25 5 rfl rfl
theorem q_g398_8 (h : q_PI M) : ir_gp M 398 8 8 = true := q_gp0 h rfl (q_p398_8 h) rfl
theorem q_p404_3 (h : q_PI M) : ir_P M 404 3 = 405 := q_pt_of h 25 6 rfl rfl
theorem q_g404_3 (h : q_PI M) : ir_gp M 404 10 3 = true := q_gp0 h rfl (q_p404_3 h) rfl
theorem q_p406_3 (h : q_PI M) : ir_P M 406 3 = 407 := q_pt_of h 25 7 rfl rfl
theorem q_g406_3 (h : q_PI M) : ir_gp M 406 10 3 = true := q_gp0 h rfl (q_p406_3 h) rfl
theorem q_p408_3 (h : q_PI M) : ir_P M 408 3 = 409 := q_pt_of h 25 8 rfl rfl
theorem q_g408_3 (h : q_PI M) : ir_gp M 408 10 3 = true := q_gp0 h rfl (q_p408_3 h) rfl
theorem q_p410_3 (h : q_PI M) : ir_P M 410 3 = 411 := q_pt_of h 25 9 rfl rfl
theorem q_g410_3 (h : q_PI M) : ir_gp M 410 10 3 = true := q_gp0 h rfl (q_p410_3 h) rfl
theorem q_p412_0 (h : q_PI M) : ir_P M 412 0 = 413 := q_pt_of h 25 10 rfl rfl
theorem q_g412_0 (h : q_PI M) : ir_gp M 412 12 0 = true := q_gp0 h rfl (q_p412_0 h) rfl
theorem q_p412_1 (h : q_PI M) : ir_P M 412 1 = 414 := q_pt_of h 25 11 rfl rfl
theorem q_g412_1 (h : q_PI M) : ir_gp M 412 12 1 = true := q_gp0 h rfl (q_p412_1 h) rfl
theorem q_p412_2 (h : q_PI M) : ir_P M 412 2 = 415 := q_pt_of h 25 12 rfl rfl
theorem q_g412_2 (h : q_PI M) : ir_gp M 412 12 2 = true := q_gp0 h rfl (q_p412_2 h) rfl
theorem q_p412_3 (h : q_PI M) : ir_P M 412 3 = 416 := q_pt_of h 25 13 rfl rfl
theorem q_g412_3 (h : q_PI M) : ir_gp M 412 12 3 = true := q_gp0 h rfl (q_p412_3 h) rfl
theorem q_p412_5 (h : q_PI M) : ir_P M 412 5 = 417 := q_pt_of h 25 14 rfl rfl
theorem q_g412_5 (h : q_PI M) : ir_gp M 412 12 5 = true := q_gp0 h rfl (q_p412_5 h) rfl
theorem q_p412_17 (h : q_PI M) : ir_P M 412 17 = 418 := q_pt_of h 25 15 rfl rfl
theorem q_g412_17 (h : q_PI M) : ir_gp M 412 12 17 = true := q_gp0 h rfl (q_p412_17 h) rfl
theorem q_p412_18 (h : q_PI M) : ir_P M 412 18 = 419 := q_pt_of h 26 0 rfl rfl
theorem q_g412_18 (h : q_PI M) : ir_gp M 412 12 18 = true := q_gp0 h rfl (q_p412_18 h) rfl
theorem q_p412_19 (h : q_PI M) : ir_P M 412 19 = 420 := q_pt_of h 26 1 rfl rfl
theorem q_g412_19 (h : q_PI M) : ir_gp M 412 12 19 = true := q_gp0 h rfl (q_p412_19 h) rfl
theorem q_p412_20 (h : q_PI M) : ir_P M 412 20 = 421 := q_pt_of h 26 2 rfl rfl
theorem q_g412_20 (h : q_PI M) : ir_gp M 412 12 20 = true := q_gp0 h rfl (q_p412_20 h) rfl
theorem q_p412_25 (h : q_PI M) : ir_P M 412 25 = 422 := q_pt_of h 26 3 rfl rfl
theorem q_g412_25 (h : q_PI M) : ir_gp M 412 12 25 = true := q_gp0 h rfl (q_p412_25 h) rfl
theorem q_p412_30 (h : q_PI M) : ir_P M 412 30 = 423 := q_pt_of h 26 4 rfl rfl
theorem q_g412_30 (h : q_PI M) : ir_gp M 412 12 30 = true := q_gp0 h rfl (q_p412_30 h) rfl
theorem q_p412_31 (h : q_PI M) : ir_P M 412 31 = 424 := q_pt_of h 26 5 rfl rfl
theorem q_g412_31 (h : q_PI M) : ir_gp M 412 12 31 = true := q_gp0 h rfl (q_p412_31 h) rfl
theorem q_p412_32 (h : q_PI M) : ir_P M 412 32 = 425 := q_pt_of h 26 6 rfl rfl
theorem q_g412_32 (h : q_PI M) : ir_gp M 412 12 32 = true := q_gp0 h rfl (q_p412_32 h) rfl
theorem q_p412_36 (h : q_PI M) : ir_P M 412 36 = 426 := q_pt_of h 26 7 rfl rfl
theorem q_g412_36 (h : q_PI M) : ir_gp M 412 12 36 = true := q_gp0 h rfl (q_p412_36 h) rfl
theorem q_p412_37 (h : q_PI M) : ir_P M 412 37 = 427 := q_pt_of h 26 8 rfl rfl
theorem q_g412_37 (h : q_PI M) : ir_gp M 412 12 37 = true := q_gp0 h rfl (q_p412_37 h) rfl
theorem q_p412_39 (h : q_PI M) : ir_P M 412 39 = 428 := q_pt_of h 26 9 rfl rfl
theorem q_g412_39 (h : q_PI M) : ir_gp M 412 12 39 = true := q_gp0 h rfl (q_p412_39 h) rfl
theorem q_p412_40 (h : q_PI M) : ir_P M 412 40 = 429 := q_pt_of h 26 10 rfl rfl
theorem q_g412_40 (h : q_PI M) : ir_gp M 412 12 40 = true := q_gp0 h rfl (q_p412_40 h) rfl
theorem q_p412_41 (h : q_PI M) : ir_P M 412 41 = 430 := q_pt_of h 26 11 rfl rfl
theorem q_g412_41 (h : q_PI M) : ir_gp M 412 12 41 = true := q_gp0 h rfl (q_p412_41 h) rfl
theorem q_p412_44 (h : q_PI M) : ir_P M 412 44 = 431 := q_pt_of h 26 12 rfl rfl
theorem q_g412_44 (h : q_PI M) : ir_gp M 412 12 44 = true := q_gp0 h rfl (q_p412_44 h) rfl
theorem q_p412_45 (h : q_PI M) : ir_P M 412 45 = 432 := q_pt_of h 26 13 rfl rfl
theorem q_g412_45 (h : q_PI M) : ir_gp M 412 12 45 = true := q_gp0 h rfl (q_p412_45 h) rfl
theorem q_p412_47 (h : q_PI M) : ir_P M 412 47 = 433 := q_pt_of h 26 14 rfl rfl
theorem q_g412_47 (h : q_PI M) : ir_gp M 412 12 47 = true := q_gp0 h rfl (q_p412_47 h) rfl
theorem q_p412_48 (h : q_PI M) : ir_P M 412 48 = 434 := q_pt_of h 26 15 rfl rfl
theorem q_g412_48 (h : q_PI M) : ir_gp M 412 12 48 = true := q_gp0 h rfl (q_p412_48 h) rfl
theorem q_p412_49 (h : q_PI M) : ir_P M 412 49 = 435 := q_pt_of h 27 0 rfl rfl
theorem q_g412_49 (h : q_PI M) : ir_gp M 412 12 49 = true := q_gp0 h rfl (q_p412_49 h) rfl
end Q0
