/-! THE VALUE OF THE INTERPRETER: more steps never change an answer; the limit satisfies the step's own equation. -/
def ir_le (x y : ir_R) : Prop := ∀ r, x = some r → y = some r
theorem ir_le.rf {x : ir_R} : ir_le x x := fun _ h => h
theorem ir_le.no {y : ir_R} : ir_le none y := fun _ h => nomatch h
/-- x is reached by the row xs from some place on -/
def ir_ct (x : ir_R) (xs : Nat → ir_R) : Prop := ∀ r, x = some r → ∃ n, ∀ m, n ≤ m → xs m = some r
theorem ir_ct.rf {x : ir_R} : ir_ct x (fun _ => x) := fun _ h => ⟨0, fun _ _ => h⟩
theorem ir_ct.no {ys : Nat → ir_R} : ir_ct none ys := fun _ h => nomatch h
/-- both at once: K x y stands for ir_le x y, or for ir_ct; a relation that the step's own words keep -/
def ir_kp {α : Type} (K : ir_R → (α → ir_R) → Prop) : Prop :=
  (∀ x : ir_R, K x (fun _ => x)) ∧ (∀ ys, K none ys) ∧ (∀ (x : ir_R) (xs : α → ir_R) (k : Int32 → ir_M → ir_R) (ks : α → Int32 → ir_M → ir_R) (h : Nat → ir_M → ir_R) (hs : α → Nat → ir_M → ir_R), K x xs → (∀ v M, K (k v M) (fun n => ks n v M)) → (∀ v M, K (h v M) (fun n => hs n v M)) → K (ir_bI x k h) (fun n => ir_bI (xs n) (ks n) (hs n))) ∧
  (∀ (x : ir_R) (xs : α → ir_R) (k : Int64 → ir_M → ir_R) (ks : α → Int64 → ir_M → ir_R) (h : Nat → ir_M → ir_R) (hs : α → Nat → ir_M → ir_R), K x xs → (∀ v M, K (k v M) (fun n => ks n v M)) → (∀ v M, K (h v M) (fun n => hs n v M)) → K (ir_bJ x k h) (fun n => ir_bJ (xs n) (ks n) (hs n))) ∧
  (∀ (x : ir_R) (xs : α → ir_R) (k : Nat → ir_M → ir_R) (ks : α → Nat → ir_M → ir_R) (h : Nat → ir_M → ir_R) (hs : α → Nat → ir_M → ir_R), K x xs → (∀ v M, K (k v M) (fun n => ks n v M)) → (∀ v M, K (h v M) (fun n => hs n v M)) → K (ir_bP x k h) (fun n => ir_bP (xs n) (ks n) (hs n))) ∧
  (∀ (x : ir_R) (xs : α → ir_R) (k : ir_M → ir_R) (ks : α → ir_M → ir_R) (h : Nat → ir_M → ir_R) (hs : α → Nat → ir_M → ir_R), K x xs → (∀ M, K (k M) (fun n => ks n M)) → (∀ v M, K (h v M) (fun n => hs n v M)) → K (ir_bV x k h) (fun n => ir_bV (xs n) (ks n) (hs n)))
section IRK
variable {α : Type} {K : ir_R → (α → ir_R) → Prop}
theorem ir_kp_ck (c : ir_kp K) {b : Bool} {r : ir_R} {rs : α → ir_R} (h : K r rs) : K (ir_ck b r) (fun n => ir_ck b (rs n)) := by
  cases b
  · exact c.2.1 _
  · exact h
theorem ir_kp_rm (c : ir_kp K) {b : List Value} {r : ir_R} {rs : α → ir_R} (h : K r rs) : K (ir_rm b r) (fun n => ir_rm b (rs n)) := by
  unfold ir_rm
  split
  · exact h
  · exact c.2.1 _
theorem ir_kp_ft0 (c : ir_kp K) {y : Nat} {b : List Value} {r : ir_R} {rs : α → ir_R} (h : K r rs) : K (ir_ft0 y b r) (fun n => ir_ft0 y b (rs n)) := by
  unfold ir_ft0
  split
  · exact h
  · exact c.2.1 _
theorem ir_kp_dI (c : ir_kp K) {b : Int32} {r : ir_R} {rs : α → ir_R} (h : K r rs) : K (ir_dI b r) (fun n => ir_dI b (rs n)) := by
  unfold ir_dI
  split
  · exact c.2.1 _
  · exact h
theorem ir_kp_dJ (c : ir_kp K) {b : Int64} {r : ir_R} {rs : α → ir_R} (h : K r rs) : K (ir_dJ b r) (fun n => ir_dJ b (rs n)) := by
  unfold ir_dJ
  split
  · exact c.2.1 _
  · exact h
theorem ir_kp_ite (c : ir_kp K) {b : Prop} {i : Decidable b} {r s : ir_R} {rs ss : α → ir_R} (h : K r rs) (h' : K s ss) : K (@ite _ b i r s) (fun n => @ite _ b i (rs n) (ss n)) := by
  by_cases q : b
  · simp only [if_pos q]; exact h
  · simp only [if_neg q]; exact h'
theorem ir_kp_mk : ∀ (b : List Bool) (L : ir_L) (f : ir_L → ir_R) (fs : α → ir_L → ir_R), (∀ L, K (f L) (fun i => fs i L)) → K (ir_mk b L f) (fun i => ir_mk b L (fs i))
  | [], l, f, fs, h => h l
  | _ :: _, [], f, fs, h => h []
  | true :: b, _ :: l, f, fs, h => ir_kp_mk b l (fun l' => f (none :: l')) (fun i l' => fs i (none :: l')) (fun l' => h _)
  | false :: b, a :: l, f, fs, h => ir_kp_mk b l (fun l' => f (a :: l')) (fun i l' => fs i (a :: l')) (fun l' => h _)
theorem ir_kp_pt (c : ir_kp K) (v : Value) : ∀ (n : Nat) (L : ir_L) (f : ir_L → ir_R) (fs : α → ir_L → ir_R), (∀ L, K (f L) (fun i => fs i L)) → K (ir_pt v f n L) (fun i => ir_pt v (fs i) n L)
  | 0, [], f, fs, h => c.2.1 _
  | 0, _ :: l, f, fs, h => h _
  | 1, [], f, fs, h => c.2.1 _
  | 1, [_], f, fs, h => c.2.1 _
  | 1, _ :: _ :: l, f, fs, h => h _
  | n + 2, [], f, fs, h => c.2.1 _
  | n + 2, a :: l, f, fs, h => ir_kp_pt c v (n + 1) l (fun l' => f (a :: l')) (fun i l' => fs i (a :: l')) (fun l' => h _)
theorem ir_kp_pt2 (c : ir_kp K) (v : Value) : ∀ (n : Nat) (L : ir_L) (f : ir_L → ir_R) (fs : α → ir_L → ir_R), (∀ L, K (f L) (fun i => fs i L)) → K (ir_pt2 v f n L) (fun i => ir_pt2 v (fs i) n L)
  | 0, [], f, fs, h => c.2.1 _
  | 0, [_], f, fs, h => c.2.1 _
  | 0, _ :: _ :: l, f, fs, h => h _
  | 1, [], f, fs, h => c.2.1 _
  | 1, [_], f, fs, h => c.2.1 _
  | 1, [_, _], f, fs, h => c.2.1 _
  | 1, _ :: _ :: _ :: l, f, fs, h => h _
  | n + 2, [], f, fs, h => c.2.1 _
  | n + 2, a :: l, f, fs, h => ir_kp_pt2 c v (n + 1) l (fun l' => f (a :: l')) (fun i l' => fs i (a :: l')) (fun l' => h _)
theorem ir_kp_tk (c : ir_kp K) : ∀ (n : Nat) (st acc : List Value) (f : List Value → List Value → ir_R) (fs : α → List Value → List Value → ir_R), (∀ a r, K (f a r) (fun i => fs i a r)) → K (ir_tk n st acc f) (fun i => ir_tk n st acc (fs i))
  | 0, st, acc, f, fs, h => h _ _
  | n + 1, [], acc, f, fs, h => c.2.1 _
  | n + 1, a :: st, acc, f, fs, h => ir_kp_tk c n st (a :: acc) f fs h
theorem ir_kp_ms (c : ir_kp K) : ∀ (n : Nat) (L : ir_L) (f : ir_L → ir_R) (fs : α → ir_L → ir_R), (∀ L, K (f L) (fun i => fs i L)) → K (ir_ms f n L) (fun i => ir_ms (fs i) n L)
  | 0, [], f, fs, h => c.2.1 _
  | 0, _ :: l, f, fs, h => h _
  | 1, [], f, fs, h => c.2.1 _
  | 1, [_], f, fs, h => c.2.1 _
  | 1, _ :: _ :: l, f, fs, h => h _
  | n + 2, [], f, fs, h => c.2.1 _
  | n + 2, a :: l, f, fs, h => ir_kp_ms c (n + 1) l (fun l' => f (a :: l')) (fun i l' => fs i (a :: l')) (fun l' => h _)
theorem ir_kp_hn (c : ir_kp K) {F : ir_F} {Fs : α → ir_F} (hF : ∀ pc L st M, K (F pc L st M) (fun n => Fs n pc L st M)) (pc : Nat) (L : ir_L) (e : Nat) (M : ir_M) : ∀ hd : ir_H, K (ir_hn F pc L e M hd) (fun n => ir_hn (Fs n) pc L e M hd) := by
  intro hd
  induction hd with
  | nil => exact c.2.1 _
  | cons q l ih =>
    obtain ⟨f, t, x, s, p⟩ := q
    unfold ir_hn
    split
    · exact ir_kp_ite c (ir_kp_ms c _ _ _ _ (fun L' => hF _ _ _ _)) ih
    · exact ih
theorem ir_kp_hx (c : ir_kp K) {F : ir_F} {Fs : α → ir_F} (hF : ∀ pc L st M, K (F pc L st M) (fun n => Fs n pc L st M)) (pc : Nat) (L : ir_L) (e : Nat) (M : ir_M) (hd : ir_H) : K (ir_hx F pc L e M hd) (fun n => ir_hx (Fs n) pc L e M hd) := by
  cases hd with
  | nil => exact c.1 _
  | cons q l => exact ir_kp_hn c hF pc L e M (q :: l)
theorem ir_kp_swt (c : ir_kp K) {k : Nat → ir_R} {ks : α → Nat → ir_R} (hk : ∀ t, K (k t) (fun n => ks n t)) (a : Int32) (d : Nat) : ∀ (w : Nat) (l : List Nat), l.length ≤ w → K (ir_swt k a d l) (fun n => ir_swt (ks n) a d l) := by
  intro w
  induction w with
  | zero =>
    intro l hl
    cases l with
    | nil => exact hk d
    | cons x l => simp at hl
  | succ w ih =>
    intro l hl
    cases l with
    | nil => exact hk d
    | cons x l =>
      cases l with
      | nil => exact hk d
      | cons t l =>
        unfold ir_swt
        exact ir_kp_ite c (hk t) (ih l (by simp only [List.length_cons] at hl; omega))
theorem ir_kp_inv (c : ir_kp K) {F : ir_F} {Fs : α → ir_F} {G : ir_G} {Gs : α → ir_G} (hF : ∀ pc L st M, K (F pc L st M) (fun n => Fs n pc L st M)) (hG : ∀ y as M, K (G y as M) (fun n => Gs n y as M)) (hd : ir_H) (pc n : Nat) (x : List Nat) (L : ir_L) (st : List Value) (M : ir_M) : K (ir_inv F G hd pc n x L st M) (fun i => ir_inv (Fs i) (Gs i) hd pc n x L st M) := by
  unfold ir_inv
  split
  · unfold ir_r1; split
    · exact ir_kp_rm c (hF _ _ _ _)
    · exact c.2.1 _
  · unfold ir_i2; split
    · exact ir_kp_rm c (hF _ _ _ _)
    · exact c.2.1 _
  · unfold ir_i2; split
    · exact ir_kp_rm c (hF _ _ _ _)
    · exact c.2.1 _
  · unfold ir_i1; split
    · exact ir_kp_rm c (hF _ _ _ _)
    · exact c.2.1 _
  · unfold ir_l2; split
    · exact ir_kp_rm c (hF _ _ _ _)
    · exact c.2.1 _
  · unfold ir_l2; split
    · exact ir_kp_rm c (hF _ _ _ _)
    · exact c.2.1 _
  · split
    · exact ir_kp_rm c (ir_kp_ck c (hF _ _ _ _))
    · exact c.2.1 _
  · refine ir_kp_tk c _ _ _ _ _ (fun as r => ir_kp_rm c (ir_kp_ft0 c (ir_kp_ck c ?_)))
    split
    · exact c.2.2.2.2.2 _ _ _ _ _ _ (hG _ _ _) (fun _ => hF _ _ _ _) (fun _ _ => ir_kp_hx c hF _ _ _ _ _)
    · exact c.2.2.1 _ _ _ _ _ _ (hG _ _ _) (fun _ _ => hF _ _ _ _) (fun _ _ => ir_kp_hx c hF _ _ _ _ _)
    · exact c.2.2.2.1 _ _ _ _ _ _ (hG _ _ _) (fun _ _ => hF _ _ _ _) (fun _ _ => ir_kp_hx c hF _ _ _ _ _)
    · exact c.2.2.2.2.1 _ _ _ _ _ _ (hG _ _ _) (fun _ _ => hF _ _ _ _) (fun _ _ => ir_kp_hx c hF _ _ _ _ _)
  · exact c.2.1 _
set_option maxHeartbeats 4000000 in
theorem ir_kp_step (c : ir_kp K) {F : ir_F} {Fs : α → ir_F} {G : ir_G} {Gs : α → ir_G} (hF : ∀ pc L st M, K (F pc L st M) (fun n => Fs n pc L st M)) (hG : ∀ y as M, K (G y as M) (fun n => Gs n y as M)) (hd : ir_H) (pc : Nat) (e : ir_E) (L : ir_L) (st : List Value) (M : ir_M) : K (ir_step F G hd pc e L st M) (fun n => ir_step (Fs n) (Gs n) hd pc e L st M) := by
  obtain ⟨i, n, x, w, dd⟩ := e
  cases i <;> simp only [ir_step] <;> first
    | exact hF _ _ _ _
    | exact c.2.1 _
    | exact ir_kp_inv c hF hG _ _ _ _ _ _ _
    | (try simp only [ir_mi, ir_mj, ir_mr, ir_i1, ir_i2, ir_l1, ir_l2, ir_li, ir_r1, ir_ri, ir_rii, ir_ril, ir_rir, ir_s1, ir_s2, ir_jm, ir_gf, ir_pf, ir_nw, ir_na]
       repeat' (first
        | exact hF _ _ _ _
        | exact c.2.1 _
        | exact c.1 _
        | refine ir_kp_ck c ?_
        | refine ir_kp_dI c ?_
        | refine ir_kp_rm c ?_
        | refine ir_kp_dJ c ?_
        | refine ir_kp_ite c ?_ ?_
        | exact ir_kp_swt c (fun t => hF _ _ _ _) _ _ _ _ (Nat.le_refl _)
        | exact ir_kp_pt c _ _ _ _ _ (fun L' => hF _ _ _ _)
        | exact ir_kp_pt2 c _ _ _ _ _ (fun L' => hF _ _ _ _)
        | split))
end IRK
theorem ir_kp_le : ir_kp (α := Unit) (fun x ys => ir_le x (ys ())) := by
  refine ⟨fun _ => ir_le.rf, fun _ => ir_le.no, ?_, ?_, ?_, ?_⟩
  all_goals
    intro x xs k ks h hs hx hk hh r hr
    first | unfold ir_bI at hr | unfold ir_bJ at hr | unfold ir_bP at hr | unfold ir_bV at hr
    split at hr
    · have h9 := hx _ rfl
      simp only [h9, ir_bI, ir_bJ, ir_bP, ir_bV]
      first | exact hk _ _ _ hr | exact hk _ _ hr
    · have h9 := hx _ rfl
      simp only [h9, ir_bI, ir_bJ, ir_bP, ir_bV]
      exact hh _ _ _ hr
    · exact nomatch hr
theorem ir_kp_ct : ir_kp (α := Nat) ir_ct := by
  refine ⟨fun _ => ir_ct.rf, fun _ => ir_ct.no, ?_, ?_, ?_, ?_⟩
  all_goals
    intro x xs k ks h hs hx hk hh r hr
    first | unfold ir_bI at hr | unfold ir_bJ at hr | unfold ir_bP at hr | unfold ir_bV at hr
    split at hr
    · obtain ⟨n, hn⟩ := hx _ rfl
      obtain ⟨n', hn'⟩ : ∃ n', ∀ m, n' ≤ m → _ = some r := by first | exact hk _ _ _ hr | exact hk _ _ hr
      refine ⟨max n n', fun m hm => ?_⟩
      simp only [hn m (by omega)]
      first | exact hn' m (by omega) | (simp only [ir_bI, ir_bJ, ir_bP, ir_bV]; exact hn' m (by omega))
    · obtain ⟨n, hn⟩ := hx _ rfl
      obtain ⟨n', hn'⟩ := hh _ _ _ hr
      refine ⟨max n n', fun m hm => ?_⟩
      simp only [hn m (by omega)]
      first | exact hn' m (by omega) | (simp only [ir_bI, ir_bJ, ir_bP, ir_bV]; exact hn' m (by omega))
    · exact nomatch hr

/-! the value -/
def ir_cd (n d : Nat) : ir_G := fun y' as M' => match d with
  | 0 => none
  | d' + 1 => ir_ev n d' y' 0 (ir_en y' as) [] M'
theorem ir_ev_mono : ∀ (n d y pc : Nat) (L : ir_L) (st : List Value) (M : ir_M), ir_le (ir_ev n d y pc L st M) (ir_ev (n + 1) d y pc L st M) := by
  intro n
  induction n with
  | zero => intro d y pc L st M r h; exact nomatch h
  | succ n ih =>
    intro d y pc L st M
    rw [ir_ev, ir_ev.eq_def (n + 1 + 1)]
    dsimp only
    cases ir_fetch y pc with
    | none => exact ir_le.no
    | some e =>
      refine ir_kp_mk (K := fun x ys => ir_le x (ys ())) _ _ _ (fun _ => _) (fun L' => ?_)
      refine ir_kp_step (Fs := fun _ => ir_ev (n + 1) d y) (Gs := fun _ => ir_cd (n + 1) d) ir_kp_le (fun pc L st M => ih d y pc L st M) (fun y' as M' => ?_) _ _ _ _ _ _
      cases d with
      | zero => exact ir_le.no
      | succ d' => exact ih d' y' 0 _ _ M'
theorem ir_ev_le {n m : Nat} (h : n ≤ m) (d y pc : Nat) (L : ir_L) (st : List Value) (M : ir_M) : ir_le (ir_ev n d y pc L st M) (ir_ev m d y pc L st M) := by
  induction h with
  | refl => exact ir_le.rf
  | step _ ih => exact fun r hr => ir_ev_mono _ _ _ _ _ _ _ r (ih r hr)
noncomputable def ir_vl (d y : Nat) : ir_F := fun pc L st M => @dite _ (∃ r n, ir_ev n d y pc L st M = some r) (Classical.propDecidable _) (fun h => some h.choose) (fun _ => none)
theorem ir_vl_iff {d y pc : Nat} {L : ir_L} {st : List Value} {M : ir_M} {r : (Option Value ⊕ Nat) × ir_M} : ir_vl d y pc L st M = some r ↔ ∃ n, ir_ev n d y pc L st M = some r := by
  unfold ir_vl
  by_cases h : ∃ r n, ir_ev n d y pc L st M = some r
  · rw [dif_pos h]
    obtain ⟨n, hn⟩ := h.choose_spec
    constructor
    · intro e; rw [← e]; exact ⟨n, hn⟩
    · rintro ⟨m, hm⟩
      have h1 := ir_ev_le (Nat.le_max_left n m) d y pc L st M _ hn
      have h2 := ir_ev_le (Nat.le_max_right n m) d y pc L st M _ hm
      exact h1.symm.trans h2
  · rw [dif_neg h]
    constructor
    · intro e; exact nomatch e
    · rintro ⟨n, hn⟩; exact absurd ⟨r, n, hn⟩ h
noncomputable def ir_ca (d : Nat) : ir_G := fun y as M => match d with
  | 0 => none
  | d' + 1 => ir_vl d' y 0 (ir_en y as) [] M
theorem ir_opt {α : Type} {x y : Option α} (h : ∀ r, x = some r ↔ y = some r) : x = y := by
  cases x with
  | none =>
    cases y with
    | none => rfl
    | some v => exact absurd ((h v).mpr rfl) (by simp)
  | some v => exact ((h v).mp rfl).symm
theorem ir_vl_eq (d y pc : Nat) (L : ir_L) (st : List Value) (M : ir_M) : ir_vl d y pc L st M = (match ir_fetch y pc with
    | none => none
    | some e => ir_mk e.2.2.2.2 L fun L' => ir_step (ir_vl d y) (ir_ca d) (ir_hd y) pc e L' st M) := by
  apply ir_opt
  intro r
  rw [ir_vl_iff]
  constructor
  · rintro ⟨n, hn⟩
    cases n with
    | zero => exact nomatch hn
    | succ n =>
      rw [ir_ev] at hn
      cases hf : ir_fetch y pc with
      | none => rw [hf] at hn; exact nomatch hn
      | some e =>
        rw [hf] at hn
        refine ir_kp_mk (K := fun x ys => ir_le x (ys ())) _ _ _ (fun _ => _) (fun L' => ?_) r hn
        refine ir_kp_step (Fs := fun _ => ir_vl d y) (Gs := fun _ => ir_ca d) ir_kp_le (fun pc L st M r h => ir_vl_iff.mpr ⟨n, h⟩) (fun y' as M' => ?_) _ _ _ _ _ _
        cases d with
        | zero => exact ir_le.no
        | succ d' => exact fun r h => ir_vl_iff.mpr ⟨n, h⟩
  · intro h
    cases hf : ir_fetch y pc with
    | none => rw [hf] at h; exact nomatch h
    | some e =>
      rw [hf] at h
      have hF : ∀ (d y pc : Nat) (L : ir_L) (st : List Value) (M : ir_M), ir_ct (ir_vl d y pc L st M) (fun n => ir_ev n d y pc L st M) := fun d y pc L st M r hr => by
        obtain ⟨n, hn⟩ := ir_vl_iff.mp hr
        exact ⟨n, fun m hm => ir_ev_le hm d y pc L st M r hn⟩
      obtain ⟨n, hn⟩ := ir_kp_mk (K := ir_ct) e.2.2.2.2 L _ (fun n => fun L' => ir_step (ir_ev n d y) (ir_cd n d) (ir_hd y) pc e L' st M) (fun L' => ir_kp_step (Fs := fun n => ir_ev n d y) (Gs := fun n => ir_cd n d) ir_kp_ct (fun pc L st M => hF d y pc L st M) (fun y' as M' => by
          cases d with
          | zero => exact ir_ct.no
          | succ d' => exact hF d' y' 0 _ _ M') (ir_hd y) pc e L' st M) r h
      refine ⟨n + 1, ?_⟩
      rw [ir_ev, hf]
      exact hn n (Nat.le_refl n)
def ir_mf : List Bool → ir_L → ir_L
  | [], l => l
  | _ :: _, [] => []
  | true :: b, _ :: l => none :: ir_mf b l
  | false :: b, a :: l => a :: ir_mf b l
theorem ir_mk_eq : ∀ (b : List Bool) (L : ir_L) (k : ir_L → ir_R), ir_mk b L k = k (ir_mf b L)
  | [], _, _ => rfl
  | true :: _, [], _ => rfl
  | false :: _, [], _ => rfl
  | true :: b, _ :: l, k => ir_mk_eq b l (fun l' => k (none :: l'))
  | false :: b, a :: l, k => ir_mk_eq b l (fun l' => k (a :: l'))
theorem ir_mf_mf : ∀ (b : List Bool) (L : ir_L), ir_mf b (ir_mf b L) = ir_mf b L
  | [], _ => rfl
  | true :: _, [] => rfl
  | false :: _, [] => rfl
  | true :: b, _ :: l => congrArg (none :: ·) (ir_mf_mf b l)
  | false :: b, a :: l => congrArg (a :: ·) (ir_mf_mf b l)
def ir_cl (y pc : Nat) (L : ir_L) (k : ir_L → ir_R) : ir_R := match ir_fetch y pc with
  | none => k L
  | some e => ir_mk e.2.2.2.2 L k
theorem ir_vl_cl (d y pc : Nat) (L : ir_L) (st : List Value) (M : ir_M) : ir_cl y pc L (fun L' => ir_vl d y pc L' st M) = ir_vl d y pc L st M := by
  rw [ir_cl]
  cases hf : ir_fetch y pc with
  | none => rfl
  | some e =>
    dsimp only
    rw [ir_mk_eq, ir_vl_eq, ir_vl_eq d y pc L, hf]
    dsimp only
    rw [ir_mk_eq, ir_mk_eq, ir_mf_mf]
/-- some steps on at once, up to the places in 'stop' -/
def ir_un (y : Nat) (stop : List Nat) (F : ir_F) (G : ir_G) (hd : ir_H) : Nat → ir_F
  | 0, pc, L, st, M => F pc L st M
  | n + 1, pc, L, st, M => match ir_mem pc stop with
    | true => ir_cl y pc L (fun L' => F pc L' st M)
    | false => match ir_fetch y pc with
      | none => none
      | some e => ir_mk e.2.2.2.2 L fun L' => ir_step (ir_un y stop F G hd n) G hd pc e L' st M
theorem ir_un_eq (d y : Nat) (stop : List Nat) : ∀ n : Nat, ir_un y stop (ir_vl d y) (ir_ca d) (ir_hd y) n = ir_vl d y := by
  intro n
  induction n with
  | zero => rfl
  | succ n ih =>
    funext pc L st M
    rw [ir_un]
    split
    · exact ir_vl_cl d y pc L st M
    · rw [ir_vl_eq, ih]
def ir_u1 (y : Nat) (stop : List Nat) (F : ir_F) (G : ir_G) (n pc : Nat) (L : ir_L) (st : List Value) (M : ir_M) : ir_R := match ir_fetch y pc with
  | none => none
  | some e => ir_mk e.2.2.2.2 L fun L' => ir_step (ir_un y stop F G (ir_hd y) n) G (ir_hd y) pc e L' st M
theorem ir_u1_eq (y : Nat) (stop : List Nat) (n d pc : Nat) (L : ir_L) (st : List Value) (M : ir_M) : ir_vl d y pc L st M = ir_u1 y stop (ir_vl d y) (ir_ca d) n pc L st M := by
  rw [ir_vl_eq, ir_u1, ir_un_eq]
def ir_oI (v : Int32) (M : ir_M) : ir_R := some (.inl (some (.int v)), M)
def ir_oJ (v : Int64) (M : ir_M) : ir_R := some (.inl (some (.long v)), M)
def ir_oP (v : Nat) (M : ir_M) : ir_R := some (.inl (some (.ref v)), M)
def ir_oV (M : ir_M) : ir_R := some (.inl none, M)
def ir_oX (e : Nat) (M : ir_M) : ir_R := some (.inr e, M)
def ir_cI (r : ir_R) (k : Int32 → ir_M → ir_R) : ir_R := ir_bI r k ir_oX
def ir_cJ (r : ir_R) (k : Int64 → ir_M → ir_R) : ir_R := ir_bJ r k ir_oX
def ir_cP (r : ir_R) (k : Nat → ir_M → ir_R) : ir_R := ir_bP r k ir_oX
def ir_cV (r : ir_R) (k : ir_M → ir_R) : ir_R := ir_bV r k ir_oX
def ir_lt (M : ir_M) (k : ir_M → ir_R) : ir_R := k M
