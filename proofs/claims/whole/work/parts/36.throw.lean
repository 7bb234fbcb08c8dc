/-! A METHOD THROWS a new exception with a message: for constructors whose link to the one above has any place in the pool (the library's law has it at 7, which NoSuchElementException's isn't). -/
section IRX
variable {p : Program} {l : Launch} {e : Env} {R : Room} {s : State} {m : MethodId} {args : Array Value} {below : List Frame} {meth : Method} {c : Code}
theorem ir_pass {args : Array Value} {s : State} {pl : Platform} (hpl : pl.magicAccessors = ({} : Platform).magicAccessors) {top : MethodId} (htop : s.methodNamed? (Bundle.initS Bundle.tN) = some top) {X Y : String} {ix : Nat} {bs : ByteArray} (hX : Bundle.fit X = true) (hY : Bundle.fit Y = true)
    (h0 : decode bs 0 = .ok (.aload_n 0, 1)) (h1 : decode bs 1 = .ok (.aload_n 1, 1)) (h2 : decode bs 2 = .ok (.invokespecial ix, 3)) (h5 : decode bs 5 = .ok (.return_, 1)) (hp : ∀ z ∈ Bundle.passSAtoms X Y ix bs, z.before args s = true) (hc : ∀ z ∈ Bundle.chainSAtoms Y ["java/lang/Exception"], z.before args s = true) :
    ∃ (P1 : PassC) (Ps : List PassC), Ps.length = 2 ∧ P1.LinksS pl s ∧ (∀ P, P ∈ Ps → P.LinksS pl s) ∧ s.methodNamed? (Bundle.initS X) = some P1.m ∧ P1.sup = firstOf top (Ps.map (·.toPassT)) ∧ PassesOn top (Ps.map (·.toPassT)) := by
  obtain ⟨P, L, hm, hs⟩ := PassC.ofS_atoms (args := args) (s := s) hpl (X := X) (Y := Y) (Bundle.fit_spec hX).1 (Bundle.fit_spec hY).2 h0 h1 h2 h5 hp
  obtain ⟨P', Ps, hlen, L', hL, hm', hsup, hpass⟩ := Bundle.chainS (args := args) hpl htop ["java/lang/Exception"] Y hY (by decide +kernel) hc
  refine ⟨P, P' :: Ps, by simp [hlen], L, fun Q hQ => ?_, hm, Option.some.inj (hs.symm.trans hm'), hsup, hpass⟩
  rcases List.mem_cons.mp hQ with rfl | hQ
  · exact L'
  · exact hL Q hQ
end IRX
