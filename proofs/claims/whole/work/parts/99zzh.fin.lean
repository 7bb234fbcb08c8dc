/-! THE LAW'S VALUE -/
section FN
variable {L : Nat} {xs : Nat → Int32}
theorem q_all (hL : L ≤ 3072) : ∃ Mf, ir_ca 201 ir_lawN [.ref 2000000] (ir_M0 L xs) = some (.inl (some (.int 1)), Mf) ∧ ir_nc Mf ≤ 601024 ∧ ir_ns Mf ≤ 7293034 := by
  have hX : q_X L xs (ir_M0 L xs) := fun a ha => ⟨funext fun j => if_neg (by omega), funext fun j => if_neg (by omega), funext fun j => if_neg (by omega)⟩
  have h1 := q_law (L := L) (xs := xs) (d := 195) (M := ir_M0 L xs) rfl rfl hX
  obtain ⟨j', M', hj, hI, e2⟩ := q_loop (I := q_Iv L xs) hL (fun j M h => ⟨h.1, h.2.1⟩) S_feed S_well S_fault S_person S_worth S_likes S_at S_allowed S_today S_liking S_ask S_days S_leave S_join S_move S_trade S_trades S_auction S_ring S_undo S_judge S_perform S_season S_best S_orders S_standBest S_kindest S_settles S_plot S_promise S_guard S_price S_bestPlace S_worthOf S_share S_ruined S_firstRuined S_by S_bestWay S_secrets S_sure S_tray S_write S_pour S_image S_restore S_count 512 0 0 (q_run q_AL (ir_M0 L xs)) (Nat.zero_le _) (by omega) q_first
  refine ⟨M', ?_, ?_, ?_⟩
  · have e3 : m_L_law 201 2000000 (ir_M0 L xs) = ir_oI 1 M' := h1.trans e2
    exact e3
  · have := hI.2.2.1
    omega
  · have := hI.2.2.2.1
    omega
end FN
