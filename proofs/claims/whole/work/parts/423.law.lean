/-! THE WHOLE LAW, from the empty heap -/
section PLAW
theorem pot_le (h : Hp) : potC h ≤ 65569 ∧ potS h ≤ 136072 := by
  have k1 : keptN h ≤ 1 := by
    unfold keptN
    split <;> omega
  unfold potC potS
  omega
theorem law_out {L j : Nat} (hL : L ≤ 3072) (hj : j = L / 6) : Int32.ofNat L - 6 < nI (6 * j) := by
  by_cases q : 6 ≤ L
  · show nI L - nI 6 < nI (6 * j)
    rw [nsub q]
    exact nI_lt (by omega) (by omega)
  · have : L = 0 ∨ L = 1 ∨ L = 2 ∨ L = 3 ∨ L = 4 ∨ L = 5 := by omega
    rcases this with rfl | rfl | rfl | rfl | rfl | rfl <;> (subst hj; decide)
set_option maxHeartbeats 4000000 in
set_option maxRecDepth 100000 in
theorem law_iter (xs : Nat → Int32) {L : Nat} (hL : L ≤ 3072) {hh : Hp} (g : GS hh) : ∃ h2 c2 s2, iter (fun z : Int32 × Hp × Nat × Nat => F_L_law_l23 xs L 3000 0 59 72 z.1 z.2) FU ((0 : Int32), (hh, 68000, 400000)) = some (.inl (h2, c2, s2)) := by
  have pl := pot_le hh
  have key := iter_ex (body := fun z : Int32 × Hp × Nat × Nat => F_L_law_l23 xs L 3000 0 59 72 z.1 z.2) (fun m z => ∃ j hh c s, z = (nI (6 * j), hh, c, s) ∧ j + m = L / 6 ∧ GS hh ∧ potC hh + m ≤ c ∧ potS hh + 6 * m ≤ s) (fun x => ∃ h2 c2 s2, x = .inl (h2, c2, s2)) (fun m z hI => ?_) FU (L / 6) ((0 : Int32), (hh, 68000, 400000)) (FU_lt (by omega)) ⟨0, hh, 68000, 400000, rfl, by omega, g, by omega, by omega⟩
  · obtain ⟨x, hx, h2, c2, s2, e⟩ := key
    exact ⟨h2, c2, s2, by rw [hx, e]⟩
  · obtain ⟨j, h1, c, s, rfl, e, g1, hc, hs⟩ := hI
    show (∃ x, F_L_law_l23 xs L 3000 0 59 72 (nI (6 * j)) (h1, c, s) = some (.inr x) ∧ _) ∨ (∃ s' i, i < m ∧ F_L_law_l23 xs L 3000 0 59 72 (nI (6 * j)) (h1, c, s) = some (.inl s') ∧ _)
    cases m with
    | zero =>
      left
      refine ⟨.inl (h1, c, s), ?_, h1, c, s, rfl⟩
      unfold F_L_law_l23
      rw [if_pos (law_out hL (by omega))]
    | succ m =>
      right
      obtain ⟨h2, c2, s2, e1, g2, hc2, hs2⟩ := law_step (R := m) xs (L := L) (j := j) g1 (by omega) hL hc hs
      refine ⟨(nI (6 * (j + 1)), h2, c2, s2), m, by omega, ?_, j + 1, h2, c2, s2, rfl, by omega, g2, hc2, hs2⟩
      rw [e1, show nI (6 * j) + (6 : Int32) = nI (6 * (j + 1)) from by rw [nl_6, nadd]; congr 1]
set_option maxHeartbeats 4000000 in
set_option maxRecDepth 100000 in
theorem pure_law (xs : Nat → Int32) (L : Nat) (hL : L ≤ 3072) : ∃ hz c9 s9, F_L_law_b0 xs L 3000 hp0 = some (1, hz, c9, s9) ∧ c9 ≤ room_1.cells ∧ s9 ≤ room_1.slots := by
  obtain ⟨h7, n9, h18, n20, e1, z7, l9, e2, z18, l20, g⟩ := first
  obtain ⟨h2, c2, s2, e3⟩ := law_iter xs hL g
  refine ⟨h2, 68073, 400001 + n20 + 29 + n9 + 10, ?_, Nat.le_trans (by omega) (show 68073 ≤ room_1.cells by decide), Nat.le_trans (by omega) (show 540000 ≤ room_1.slots by decide)⟩
  unfold F_L_law_b0
  rw [ob_s, show zN hp0 = 0 from rfl, e1, ob4_s, ob_s, z7, e2, ob4_s, ob_s, z18, show ((1 : Int32)).toNatClampNeg = 1 from rfl, e3, ob_s, sm_l]
  simp only [ac_s]
end PLAW
