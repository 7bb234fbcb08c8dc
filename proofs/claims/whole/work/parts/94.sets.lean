/-! sets as numbers -/
def k_dif (a b : Nat) : Nat := a ^^^ (a &&& b)
theorem k_dif_bit (a b i : Nat) : (k_dif a b).testBit i = (a.testBit i && !b.testBit i) := by
  unfold k_dif
  rw [Nat.testBit_xor, Nat.testBit_and]
  cases a.testBit i <;> cases b.testBit i <;> rfl
theorem k_lt256 {a : Nat} (h : ∀ i, 8 ≤ i → a.testBit i = false) : a < 256 := by
  have := Nat.lt_pow_two_of_testBit (n := 8) a (fun i hi => h i hi)
  exact this
theorem k_256 {a : Nat} (h : a < 256) {i : Nat} (hi : 8 ≤ i) : a.testBit i = false := by
  apply Nat.testBit_lt_two_pow
  have : 2 ^ 8 ≤ 2 ^ i := Nat.pow_le_pow_right (by decide) hi
  omega
theorem k_dif_lt {a b : Nat} (h : a < 256) : k_dif a b < 256 := k_lt256 fun i hi => by rw [k_dif_bit, k_256 h hi]; rfl
theorem k_bit_eq {a b : Nat} (h : ∀ i, a.testBit i = b.testBit i) : a = b := Nat.eq_of_testBit_eq h
theorem k_dif_0 {a b : Nat} : k_dif a b = 0 ↔ ∀ i, a.testBit i = true → b.testBit i = true := by
  constructor
  · intro h i hi
    have := k_dif_bit a b i
    rw [h, Nat.zero_testBit, hi] at this
    cases e : b.testBit i
    · rw [e] at this; exact nomatch this
    · rfl
  · intro h
    refine k_bit_eq fun i => ?_
    rw [k_dif_bit, Nat.zero_testBit]
    cases e : a.testBit i
    · rfl
    · rw [h i e]; rfl
theorem n_bvI {a b : Int32} (h : a.toBitVec = b.toBitVec) : a = b := Int32.toBitVec_inj.mp h
theorem n_bvn (a : Nat) : (nI a).toBitVec = BitVec.ofNat 32 a := rfl
theorem n_or (a b : Nat) : nI a ||| nI b = nI (a ||| b) := by
  apply n_bvI
  show BitVec.ofNat 32 a ||| BitVec.ofNat 32 b = BitVec.ofNat 32 (a ||| b)
  apply BitVec.eq_of_getLsbD_eq
  intro i hi
  rw [BitVec.getLsbD_or, BitVec.getLsbD_ofNat, BitVec.getLsbD_ofNat, BitVec.getLsbD_ofNat, Nat.testBit_or, decide_eq_true hi]
  simp
theorem n_and (a b : Nat) : nI a &&& nI b = nI (a &&& b) := by
  apply n_bvI
  show BitVec.ofNat 32 a &&& BitVec.ofNat 32 b = BitVec.ofNat 32 (a &&& b)
  apply BitVec.eq_of_getLsbD_eq
  intro i hi
  rw [BitVec.getLsbD_and, BitVec.getLsbD_ofNat, BitVec.getLsbD_ofNat, BitVec.getLsbD_ofNat, Nat.testBit_and, decide_eq_true hi]
  simp
theorem n_dif (a b : Nat) : nI a &&& (nI b ^^^ (-1 : Int32)) = nI (k_dif a b) := by
  apply n_bvI
  show BitVec.ofNat 32 a &&& (BitVec.ofNat 32 b ^^^ BitVec.allOnes 32) = BitVec.ofNat 32 (k_dif a b)
  apply BitVec.eq_of_getLsbD_eq
  intro i hi
  rw [BitVec.getLsbD_and, BitVec.getLsbD_xor, BitVec.getLsbD_ofNat, BitVec.getLsbD_ofNat, BitVec.getLsbD_ofNat, BitVec.getLsbD_allOnes, k_dif_bit, decide_eq_true hi]
  simp
theorem n_p2 {p : Nat} (h : p < 8) : 2 ^ p < 256 := Nat.pow_lt_pow_right (by decide) (show p < 8 from h)
theorem n_bt {a p : Nat} (h : p < 8) : (nI a &&& nI (2 ^ p) = 0) = (a.testBit p = false) := by
  have h1 := n_p2 h
  have h2 : a &&& 2 ^ p ≤ 2 ^ p := Nat.and_le_right
  rw [n_and, n_eq0 (by omega)]
  refine propext ⟨fun e => ?_, fun e => k_bit_eq fun i => ?_⟩
  · have e2 : (a &&& 2 ^ p).testBit p = false := by rw [e, Nat.zero_testBit]
    rw [Nat.testBit_and, Nat.testBit_two_pow, decide_eq_true rfl, Bool.and_true] at e2
    exact e2
  · rw [Nat.testBit_and, Nat.testBit_two_pow, Nat.zero_testBit]
    by_cases q : p = i
    · rw [← q, e]
      rfl
    · rw [decide_eq_false q, Bool.and_false]
theorem n_has : ∀ a, a < 256 → ∀ p, p < 8 → ((nI a >>> (nI p &&& 31)) &&& nI 1) = if a.testBit p = true then nI 1 else nI 0 := by decide +kernel
theorem r_has {M : ir_M} {d a p : Nat} (ha : a < 256) (hp : p < 8) : m_X12_has (d + 1) (nI a) (nI p) M = ir_oI (if a.testBit p = true then nI 1 else nI 0) M := by
  rw [E_X12_has, n_has a ha p hp]
  cases a.testBit p <;> simp (disch := omega) only [q_ckt, q_lt, q_cI, q_cJ, q_cV, q_cP, q_xI, q_xV, q_xP, q_xJ, g_gk, g_ga, g_gw, g_gp, g_gq, g_P, g_J, q_I_s, q_I_n, q_I_k, nI_add, pk_sub, pk_mul, nI_clamp, n_lt0, n_0lt, n_eq0, n_lt, n_le, n_eq, n_m1, n_m2, n_m9, n_12, n_19, n_10, n_01, n_1n1, n_0n1, n_1n0, n_0n0, n_dI, n_m1lt, q_inb, n_nar, n_nar0, n_nar1, n_bool, Bool.false_eq_true, Bool.true_eq_false, if_true, if_false, ↓reduceIte, Nat.reduceAdd, Nat.reduceMul, Nat.reduceSub, Nat.reduceLT, Nat.reduceLeDiff, Nat.reduceEqDiff, Nat.reduceMod, Nat.reduceDiv]
/-- those in the queue -/
def k_mbs (K : Nat → Int32) : Nat → Nat
  | 0 => 0
  | x + 1 => k_mbs K x ||| 2 ^ k_q K x
def k_mb (K : Nat → Int32) : Nat := k_mbs K (k_m K)
theorem k_mbs_bit {K : Nat → Int32} {p : Nat} : ∀ x, (k_mbs K x).testBit p = true ↔ ∃ i, i < x ∧ k_q K i = p
  | 0 => by
    unfold k_mbs
    rw [Nat.zero_testBit]
    exact ⟨fun h => absurd h (by decide), fun h => by
      obtain ⟨i, hi, -⟩ := h
      omega⟩
  | x + 1 => by
    unfold k_mbs
    rw [Nat.testBit_or, Bool.or_eq_true, k_mbs_bit x, Nat.testBit_two_pow, decide_eq_true_eq]
    constructor
    · rintro (⟨i, h1, h2⟩ | h)
      · exact ⟨i, by omega, h2⟩
      · exact ⟨x, by omega, h⟩
    · rintro ⟨i, h1, h2⟩
      by_cases q : i = x
      · exact Or.inr (by rw [← q]; exact h2)
      · exact Or.inl ⟨i, by omega, h2⟩
theorem k_mb_bit {K : Nat → Int32} (hk : k_ok K) (p : Nat) : (k_mb K).testBit p = k_mem K p := by
  rw [Bool.eq_iff_iff]
  unfold k_mb k_mem
  rw [k_mbs_bit]
  constructor
  · rintro ⟨i, hi, rfl⟩
    rw [k_pl_q hk hi]
    rfl
  · intro h
    cases e : k_pl K p with
    | none => rw [e] at h; exact nomatch h
    | some i => exact ⟨i, (k_pl_some e).1, (k_pl_some e).2⟩
theorem k_mem_n {K : Nat → Int32} (hk : k_ok K) {p : Nat} (h : k_mem K p = true) : p < k_n K := by
  unfold k_mem at h
  cases e : k_pl K p with
  | none => rw [e] at h; exact nomatch h
  | some i =>
    obtain ⟨h1, h2⟩ := k_pl_some e
    rw [← h2]
    exact k_qn hk h1
theorem k_mb_lt {K : Nat → Int32} (hk : k_ok K) : k_mb K < 256 := k_lt256 fun i hi => by
  rw [k_mb_bit hk]
  cases e : k_mem K i
  · rfl
  · have := k_mem_n hk e
    have := k_bds hk
    omega
section MB
variable {M : ir_M} {K : Nat → Int32} {d s : Nat}
theorem c_mb (h : c_rl M s K) : m_X8_members (d + 1) s M = ir_oI (nI (k_mb K)) M := by
  have hb := k_bds h.2.2.1
  have Lp := q_up (σ := ir_M) (V := fun x t => v_X8_members_4 d s (nI (k_mbs K x)) (nI x) t) (N := k_m K) (I := fun _ t => t = M) (K := fun t => ir_oI (nI (k_mb K)) t) (by
    rintro x t hx rfl
    have hq := k_qn h.2.2.1 hx
    refine ⟨t, rfl, ?_⟩
    rw [L_X8_members_4]
    simp (disch := omega) only [q_ckt, q_lt, q_cI, q_cJ, q_cV, q_cP, q_xI, q_xV, q_xP, q_xJ, g_gk, g_ga, g_gw, g_gp, g_gq, g_P, g_J, q_I_s, q_I_n, q_I_k, nI_add, pk_sub, pk_mul, nI_clamp, n_lt0, n_0lt, n_eq0, n_lt, n_le, n_eq, n_m1, n_m2, n_m9, n_12, n_19, n_10, n_01, n_1n1, n_0n1, n_1n0, n_0n0, n_dI, n_m1lt, q_inb, n_nar, n_nar0, n_nar1, n_bool, Bool.false_eq_true, Bool.true_eq_false, if_true, if_false, ↓reduceIte, Nat.reduceAdd, Nat.reduceMul, Nat.reduceSub, Nat.reduceLT, Nat.reduceLeDiff, Nat.reduceEqDiff, Nat.reduceMod, Nat.reduceDiv, q_S h.1 h.2.1, c_use h, hx, n_bit, n_or]
    rfl) (by
    rintro t rfl
    rw [L_X8_members_4]
    simp (disch := omega) only [q_ckt, q_lt, q_cI, q_cJ, q_cV, q_cP, q_xI, q_xV, q_xP, q_xJ, g_gk, g_ga, g_gw, g_gp, g_gq, g_P, g_J, q_I_s, q_I_n, q_I_k, nI_add, pk_sub, pk_mul, nI_clamp, n_lt0, n_0lt, n_eq0, n_lt, n_le, n_eq, n_m1, n_m2, n_m9, n_12, n_19, n_10, n_01, n_1n1, n_0n1, n_1n0, n_0n0, n_dI, n_m1lt, q_inb, n_nar, n_nar0, n_nar1, n_bool, Bool.false_eq_true, Bool.true_eq_false, if_true, if_false, ↓reduceIte, Nat.reduceAdd, Nat.reduceMul, Nat.reduceSub, Nat.reduceLT, Nat.reduceLeDiff, Nat.reduceEqDiff, Nat.reduceMod, Nat.reduceDiv, q_S h.1 h.2.1, c_use h, Nat.lt_irrefl]
    rfl) (i := 0) (t := M) (by omega) rfl
  obtain ⟨t, rfl, ee⟩ := Lp
  exact (E_X8_members d s t).trans ee
theorem r_mb (h : r_rl M K) : m_X12_inQueue (d + 2) 412 M = ir_oI (nI (k_mb K)) M := by
  have hb := k_bds h.2.1
  have Lp := q_up (σ := ir_M) (V := fun x t => v_X12_inQueue_4 (d + 1) 412 (nI (k_mbs K x)) (nI x) t) (N := k_m K) (I := fun _ t => t = M) (K := fun t => ir_oI (nI (k_mb K)) t) (by
    rintro x t hx rfl
    have hq := k_qn h.2.1 hx
    refine ⟨t, rfl, ?_⟩
    rw [L_X12_inQueue_4]
    simp (disch := omega) only [q_ckt, q_lt, q_cI, q_cJ, q_cV, q_cP, q_xI, q_xV, q_xP, q_xJ, g_gk, g_ga, g_gw, g_gp, g_gq, g_P, g_J, q_I_s, q_I_n, q_I_k, nI_add, pk_sub, pk_mul, nI_clamp, n_lt0, n_0lt, n_eq0, n_lt, n_le, n_eq, n_m1, n_m2, n_m9, n_12, n_19, n_10, n_01, n_1n1, n_0n1, n_1n0, n_0n0, n_dI, n_m1lt, q_inb, n_nar, n_nar0, n_nar1, n_bool, Bool.false_eq_true, Bool.true_eq_false, if_true, if_false, ↓reduceIte, Nat.reduceAdd, Nat.reduceMul, Nat.reduceSub, Nat.reduceLT, Nat.reduceLeDiff, Nat.reduceEqDiff, Nat.reduceMod, Nat.reduceDiv, q_R h.1, r_qd h, hx, r_wh h hx, n_bit, n_or]
    rfl) (by
    rintro t rfl
    rw [L_X12_inQueue_4]
    simp (disch := omega) only [q_ckt, q_lt, q_cI, q_cJ, q_cV, q_cP, q_xI, q_xV, q_xP, q_xJ, g_gk, g_ga, g_gw, g_gp, g_gq, g_P, g_J, q_I_s, q_I_n, q_I_k, nI_add, pk_sub, pk_mul, nI_clamp, n_lt0, n_0lt, n_eq0, n_lt, n_le, n_eq, n_m1, n_m2, n_m9, n_12, n_19, n_10, n_01, n_1n1, n_0n1, n_1n0, n_0n0, n_dI, n_m1lt, q_inb, n_nar, n_nar0, n_nar1, n_bool, Bool.false_eq_true, Bool.true_eq_false, if_true, if_false, ↓reduceIte, Nat.reduceAdd, Nat.reduceMul, Nat.reduceSub, Nat.reduceLT, Nat.reduceLeDiff, Nat.reduceEqDiff, Nat.reduceMod, Nat.reduceDiv, q_R h.1, r_qd h, Nat.lt_irrefl]
    rfl) (i := 0) (t := M) (by omega) rfl
  obtain ⟨t, rfl, ee⟩ := Lp
  exact (E_X12_inQueue (d + 1) 412 t).trans ee
end MB
/-! ruins -/
theorem k_mem_ql {K : Nat → Int32} (hk : k_ok K) {p : Nat} : k_mem K p = true ↔ p ∈ k_ql K := by
  rw [← k_mb_bit hk]
  unfold k_mb k_ql
  rw [k_mbs_bit, List.mem_map]
  constructor
  · rintro ⟨i, h1, h2⟩
    exact ⟨i, List.mem_range.mpr h1, h2⟩
  · rintro ⟨i, h1, h2⟩
    exact ⟨i, List.mem_range.mp h1, h2⟩
theorem k_sq_ql {K : Nat → Int32} {m : Nat} {l : List Nat} (h8 : l.length ≤ 8) (hl : ∀ p ∈ l, p < 8) : k_ql (k_sq K m l) = l := by
  show List.map (k_q (k_sq K m l)) (List.range (k_m (k_sq K m l))) = l
  rw [k_sq_m h8]
  apply List.ext_getElem
  · simp
  · intro i h1 h2
    rw [List.getElem_map, List.getElem_range, k_sq_q hl h2, List.getD_eq_getElem?_getD, List.getElem?_eq_getElem h2]
    rfl
theorem k_day_ql {K : Nat → Int32} (hk : k_ok K) : k_ql (k_day K) = (k_ql K).filter (fun p => !(k_bad (k_d1 K) p)) := by
  have hb := k_bds hk
  have ok1 := k_d1_ok hk
  have hb1 := k_bds ok1
  have em : k_m (k_d1 K) = k_m K := by unfold k_m; rw [k_d1_o (by omega)]
  have eq : k_ql (k_d1 K) = k_ql K := by
    unfold k_ql
    rw [em]
    apply List.map_congr_left
    intro x hx
    have := List.mem_range.mp hx
    unfold k_q
    rw [k_d1_o (by omega)]
  have h8 : ∀ p ∈ k_ql K, p < 8 := fun p hp => by
    have := k_mem_n hk ((k_mem_ql hk).mpr hp)
    omega
  have len : (k_ql K).length = k_m K := k_ql_len
  have e := k_rf_sq (K := k_d1 K) (m := k_m K) (by omega) (k_ql K) [] (by simp [len]) (by simpa using h8)
  have s := k_sq_self ok1
  rw [em, eq] at s
  rw [List.nil_append, List.nil_append, s, len] at e
  unfold k_day
  rw [show k_rf (k_m K) (k_d1 K) 0 = k_rf (k_m K) (k_d1 K) ([] : List Nat).length from rfl, e]
  have hf : ((k_ql K).filter (fun p => !(k_bad (k_d1 K) p))).length ≤ (k_ql K).length := List.length_filter_le _ _
  exact k_sq_ql (by omega) (fun p hp => h8 p (List.mem_filter.mp hp).1)
theorem k_day_mem {K : Nat → Int32} (hk : k_ok K) {p : Nat} (h : k_mem (k_day K) p = true) : k_mem K p = true := by
  rw [k_mem_ql (k_day_ok hk).1, k_day_ql hk] at h
  exact (k_mem_ql hk).mpr (List.mem_filter.mp h).1
theorem k_day_mem0 {K : Nat → Int32} (hk : k_ok K) (h4 : ¬ 0 < K 4) {p : Nat} (h : k_mem K p = true) : k_mem (k_day K) p = true := by
  rw [k_mem_ql (k_day_ok hk).1, k_day_ql hk]
  refine List.mem_filter.mpr ⟨(k_mem_ql hk).mp h, ?_⟩
  have : k_bad (k_d1 K) p = false := by
    unfold k_bad
    rw [k_d1_o (show 4 < 34 ∨ _ by omega), decide_eq_false h4]
    rfl
  rw [this]
  rfl
def k_dyn : Nat → (Nat → Int32) → (Nat → Int32)
  | 0, K => K
  | n + 1, K => k_day (k_dyn n K)
theorem k_dyn_ok {K : Nat → Int32} (hk : k_ok K) : ∀ n, k_ok (k_dyn n K)
  | 0 => hk
  | n + 1 => (k_day_ok (k_dyn_ok hk n)).1
theorem k_dyn_o {K : Nat → Int32} (hk : k_ok K) {k : Nat} (h : ¬ (9 ≤ k ∧ k < 53)) : ∀ n, k_dyn n K k = K k
  | 0 => rfl
  | n + 1 => (k_day_o (k_dyn_ok hk n) h).trans (k_dyn_o hk h n)
theorem k_dyn_42 {K : Nat → Int32} (hk : k_ok K) : ∀ n, k_dyn n K 42 = K 42 + nI n
  | 0 => by
    show K 42 = K 42 + nI 0
    rw [n_00, Int32.add_zero]
  | n + 1 => by
    show k_day (k_dyn n K) 42 = _
    rw [(k_day_ok (k_dyn_ok hk n)).2 42 (by omega)]
    show (if 42 = 42 then k_dyn n K 42 + nI 1 else _) = _
    rw [if_pos rfl, k_dyn_42 hk n, Int32.add_assoc, nI_add]
def k_fd (P : Nat → Bool) : Nat → Nat → Option Nat
  | 0, _ => none
  | r + 1, i => if P (i + 1) = true then some (i + 1) else k_fd P r (i + 1)
def k_rdm (m : Nat → Bool) : Nat → Int32
  | 0 => -1
  | d + 1 => if (m d && !m (d + 1)) = true then nI (d + 1) else k_rdm m d
section RD
variable {m : Nat → Bool}
theorem k_an (an : ∀ d, m (d + 1) = true → m d = true) {d : Nat} (h : m d = false) : ∀ n, m (d + n) = false
  | 0 => h
  | n + 1 => by
    cases e : m (d + (n + 1))
    · rfl
    · have := an (d + n) e
      rw [k_an an h n] at this
      exact this.symm
theorem k_rdA (an : ∀ d, m (d + 1) = true → m d = true) {d : Nat} (h : m d = false) : ∀ n, k_rdm m (d + n) = k_rdm m d
  | 0 => rfl
  | n + 1 => by
    show (if (m (d + n) && !m (d + n + 1)) = true then _ else k_rdm m (d + n)) = _
    rw [k_an an h n, Bool.false_and, if_neg (by decide), k_rdA an h n]
theorem k_rdB (an : ∀ d, m (d + 1) = true → m d = true) : ∀ {d : Nat}, m d = true → k_rdm m d = -1
  | 0, _ => rfl
  | d + 1, h => by
    show (if (m d && !m (d + 1)) = true then _ else k_rdm m d) = _
    rw [h, Bool.not_true, Bool.and_false, if_neg (by decide), k_rdB an (an d h)]
theorem k_rdC (an : ∀ d, m (d + 1) = true → m d = true) : ∀ {r i : Nat}, m i = true → k_rdm m (i + r) = match k_fd (fun d => !m d) r i with | some d => nI d | none => -1
  | 0, i, h => k_rdB an h
  | r + 1, i, h => by
    unfold k_fd
    cases e : m (i + 1)
    · rw [Bool.not_false, if_pos rfl, show i + (r + 1) = i + 1 + r by omega, k_rdA an e]
      show (if (m i && !m (i + 1)) = true then _ else _) = _
      rw [h, e]
      rfl
    · rw [Bool.not_true, if_neg (by decide), show i + (r + 1) = i + 1 + r by omega]
      exact k_rdC an e
theorem k_rdE (an : ∀ d, m (d + 1) = true → m d = true) {D : Nat} (h : m D = true) : ∀ n, k_rdm m (D + n) = -1 ∨ ∃ d, D < d ∧ d ≤ D + n ∧ k_rdm m (D + n) = nI d
  | 0 => Or.inl (k_rdB an h)
  | n + 1 => by
    rw [show k_rdm m (D + (n + 1)) = if (m (D + n) && !m (D + n + 1)) = true then nI (D + n + 1) else k_rdm m (D + n) from rfl]
    split
    · exact Or.inr ⟨D + n + 1, by omega, by omega, rfl⟩
    · rcases k_rdE an h n with q | ⟨d, h1, h2, h3⟩
      · exact Or.inl q
      · exact Or.inr ⟨d, h1, by omega, h3⟩
theorem k_fd_some {P : Nat → Bool} : ∀ {r i d : Nat}, k_fd P r i = some d → P d = true ∧ i < d ∧ d ≤ i + r ∧ ∀ x, i < x → x < d → P x = false
  | 0, _, _, h => nomatch h
  | r + 1, i, d, h => by
    unfold k_fd at h
    by_cases q : P (i + 1) = true
    · rw [if_pos q] at h
      cases h
      exact ⟨q, by omega, by omega, fun x h1 h2 => by omega⟩
    · rw [if_neg q] at h
      obtain ⟨a, b, c, e⟩ := k_fd_some h
      refine ⟨a, by omega, by omega, fun x h1 h2 => ?_⟩
      by_cases qx : x = i + 1
      · rw [qx]; exact Bool.eq_false_iff.mpr q
      · exact e x (by omega) h2
theorem k_fd_none {P : Nat → Bool} : ∀ {r i : Nat}, k_fd P r i = none → ∀ x, i < x → x ≤ i + r → P x = false
  | 0, _, _, x, h1, h2 => by omega
  | r + 1, i, h, x, h1, h2 => by
    unfold k_fd at h
    by_cases q : P (i + 1) = true
    · rw [if_pos q] at h; exact nomatch h
    · rw [if_neg q] at h
      by_cases qx : x = i + 1
      · rw [qx]; exact Bool.eq_false_iff.mpr q
      · exact k_fd_none h x (by omega) (by omega)
end RD
