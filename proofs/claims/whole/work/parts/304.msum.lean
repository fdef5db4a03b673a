/-! THE REFERENCE'S SUMS -/
section MSUM
variable {h : Hp}
theorem k59 (s : Sh h) : kd h 59 = 11 := by unfold Sh at s; simp only [s]
theorem r59_15 (s : Sh h) : zR h 59 15 = some 66 := by unfold Sh at s; simp only [s]
theorem k66 (s : Sh h) : kd h 66 = 13 := by unfold Sh at s; simp only [s]
theorem l66 (s : Sh h) : zl h 66 = 5 := by unfold Sh at s; simp only [s]
theorem r59_1 (s : Sh h) : zR h 59 1 = some 60 := by unfold Sh at s; simp only [s]
theorem k60 (s : Sh h) : kd h 60 = 13 := by unfold Sh at s; simp only [s]
theorem l60 (s : Sh h) : zl h 60 = 5049 := by unfold Sh at s; simp only [s]
theorem m_stoveBy (s : Sh h) (i : Inv (zI h 60)) {b q : Nat} (hb : b < 2) (hq : q < 8) (hs : q < nR (zI h 60) ∨ zI h 60 7 = 0) : F_X12_stoveBy 59 (nI b) (nI q) h = some (zI h 60 7 * zI h 60 (11 + 4 * q + b)) := by
  unfold F_X12_stoveBy F_X12_stoveBy_b0 F_X12_stoveBy_b26
  have hn := i.1.2
  rw [m_noRoom s i, ob_s, gd_d (k59 s)]
  by_cases hq2 : q < nR (zI h 60)
  · rw [isIn_nI hq2 (by omega), Bool.not_true, b2_f, if_pos rfl, r59_1 s, ob_s, gd_d (k60 s), l60 s, nl_7, ix_t (by omega) (by omega), gd_t, ncl (by omega), m_ofRoom s (by omega) (by omega), ob_s]
  · have e : isIn (nI q) (nR (zI h 60)) = false := by
      unfold isIn
      rw [nI_clamp (by omega)]
      simp [hq2]
    rw [e, Bool.not_false, b2_t, if_neg (by decide)]
    rcases hs with hs | hs
    · exact absurd hs hq2
    · rw [hs, Int32.zero_mul]
theorem m_netWithout (s : Sh h) (i : Inv (zI h 60)) {b q : Nat} (hb : b < 2) (hq : q < 8) (hs : q < nR (zI h 60) ∨ zI h 60 7 = 0) : F_X12_netWithout 59 (nI b) (nI q) h = some (thg (zI h 60) b q) := by
  unfold F_X12_netWithout F_X12_netWithout_b0
  have hn := i.1.2
  have e0 := i.1.1
  rw [m_stoveBy s i hb hq hs, ob_s, gd_d (k59 s)]
  refine ob_p (iter_run (fun j => (accN (zI h 60 7 * zI h 60 (11 + 4 * q + b)) (fun r => zI h 60 (14 + 4 * r) * zI h 60 (11 + 4 * r + b)) j, nI j)) (nR (zI h 60)) _ (fun j hj => ?_) ?_ (FU_lt (by omega))) _
  · show F_X12_netWithout_l10 59 (nI b) (accN (zI h 60 7 * zI h 60 (11 + 4 * q + b)) (fun r => zI h 60 (14 + 4 * r) * zI h 60 (11 + 4 * r + b)) j) (nI j) h = _
    unfold F_X12_netWithout_l10
    rw [m_rooms s, ob_s, gd_d (k59 s), e0, if_neg (nI_ge hj (by omega)), nl_3, m_ofRoom s (by omega) (by omega), ob_s, m_ofRoom s (by omega) (by omega), ob_s, nI_1, show 11 + 4 * j + 3 = 14 + 4 * j by omega]
    rfl
  · show F_X12_netWithout_l10 59 (nI b) (accN (zI h 60 7 * zI h 60 (11 + 4 * q + b)) (fun r => zI h 60 (14 + 4 * r) * zI h 60 (11 + 4 * r + b)) (nR (zI h 60))) (nI (nR (zI h 60))) h = _
    unfold F_X12_netWithout_l10
    rw [m_rooms s, ob_s, gd_d (k59 s), ← e0, if_pos (Int32.le_refl _)]
    rfl
/-- the cell q holds the rooms sf of all guests -/
def seated (h : Hp) (q : Nat) (n : Nat) (sf : Nat → Nat) : Prop := ∀ g, g < n → zI h q g = nI (sf g) ∧ sf g < 8
theorem m_guestsBy (s : Sh h) (i : Inv (zI h 60)) {b : Nat} (hb : b < 2) {sf : Nat → Nat} (hs : seated h 66 (nG (zI h 60)) sf) : F_X12_guestsBy 59 (nI b) h = some (gst (zI h 60) b sf) := by
  unfold F_X12_guestsBy F_X12_guestsBy_b0
  have hn := i.2.1.2
  have e0 := i.2.1.1
  refine ob_p (iter_run (fun j => (accN 0 (fun g => zI h 60 (43 + 2 * g) * zI h 60 (11 + 4 * sf g + b)) j, nI j)) (nG (zI h 60)) _ (fun j hj => ?_) ?_ (FU_lt (by omega))) _
  · show F_X12_guestsBy_l4 59 (nI b) (accN 0 (fun g => zI h 60 (43 + 2 * g) * zI h 60 (11 + 4 * sf g + b)) j) (nI j) h = _
    unfold F_X12_guestsBy_l4
    obtain ⟨h1, h2⟩ := hs j hj
    rw [m_guests s, ob_s, gd_d (k59 s), e0, if_neg (nI_ge hj (by omega)), m_weightOf s (by omega), ob_s, r59_15 s, ob_s, gd_d (k66 s), l66 s, ix_t (by omega) (by omega), gd_t, ncl (by omega), h1, m_ofRoom s (by omega) (by omega), ob_s, nI_1]
    rfl
  · show F_X12_guestsBy_l4 59 (nI b) (accN 0 (fun g => zI h 60 (43 + 2 * g) * zI h 60 (11 + 4 * sf g + b)) (nG (zI h 60))) (nI (nG (zI h 60))) h = _
    unfold F_X12_guestsBy_l4
    rw [m_guests s, ob_s, gd_d (k59 s), ← e0, if_pos (Int32.le_refl _)]
    rfl
theorem m_net (s : Sh h) (i : Inv (zI h 60)) {b : Nat} (hb : b < 2) {sf : Nat → Nat} (hs : seated h 66 (nG (zI h 60)) sf) : F_X12_net 59 (nI b) h = some (netS (zI h 60) b sf) := by
  unfold F_X12_net F_X12_net_b0
  have e6 := (iS i)
  rw [gd_d (k59 s), r59_1 s, ob_s, gd_d (k60 s), l60 s, nl_6, ix_t (by omega) (by omega), gd_t, ncl (by omega), e6.1, m_netWithout s i hb e6.2.1 e6.2.2, ob_s, m_guestsBy s i hb hs, ob_s]
  rfl
def trm (f : Nat → Int32) (b : Nat) (m : Bool) (k : Nat) : Int32 := if m then f (11 + 4 * tin f k + b) * (if 0 ≤ f (11 + 4 * tin f k + b) then f (54 + 3 * k) else f (53 + 3 * k)) else f (11 + 4 * tin f k + b) * (if 0 ≤ f (11 + 4 * tin f k + b) then f (53 + 3 * k) else f (54 + 3 * k))
theorem m_trunksBy (s : Sh h) (i : Inv (zI h 60)) {b : Nat} (hb : b < 2) (m : Bool) : F_X12_trunksBy 59 (nI b) (b2 m) h = some (accN 0 (trm (zI h 60) b m) (nT (zI h 60))) := by
  unfold F_X12_trunksBy F_X12_trunksBy_b0
  have hn := i.2.2.1.2
  have e0 := i.2.2.1.1
  have hr := i.1.2
  refine ob_p (iter_run (fun j => (accN 0 (trm (zI h 60) b m) j, nI j)) (nT (zI h 60)) _ (fun j hj => ?_) ?_ (FU_lt (by omega))) _
  · show F_X12_trunksBy_l5 59 (nI b) (b2 m) (accN 0 (trm (zI h 60) b m) j) (nI j) h = _
    unfold F_X12_trunksBy_l5 F_X12_trunksBy_b74
    obtain ⟨t1, t2, t3, t4, t5⟩ := itr i j hj
    obtain ⟨x1, x2⟩ := min_mul t1 t2 t3 (ipl i t5 hb)
    rw [m_trunks s, ob_s, gd_d (k59 s), e0, if_neg (nI_ge hj (by omega)), nl_2, m_ofTrunk s (by omega) (by omega), ob_s, show 53 + 3 * j + 2 = 55 + 3 * j by omega, t4, m_ofRoom s (by omega) (by omega), ob_s, nl_0, m_ofTrunk s (by omega) (by omega), ob_s, nl_1, m_ofTrunk s (by omega) (by omega), ob_s, show 53 + 3 * j + 0 = 53 + 3 * j by omega, show 53 + 3 * j + 1 = 54 + 3 * j by omega, x1, x2, nadd]
    cases m with
    | true => rw [if_neg (by decide)]; rfl
    | false => rw [if_pos (by decide)]; rfl
  · show F_X12_trunksBy_l5 59 (nI b) (b2 m) (accN 0 (trm (zI h 60) b m) (nT (zI h 60))) (nI (nT (zI h 60))) h = _
    unfold F_X12_trunksBy_l5
    rw [m_trunks s, ob_s, gd_d (k59 s), ← e0, if_pos (Int32.le_refl _)]
theorem m_low (s : Sh h) (i : Inv (zI h 60)) {b : Nat} (hb : b < 2) : F_X12_trunksBy 59 (nI b) 0 h = some (lowS (zI h 60) b (tin (zI h 60))) := m_trunksBy s i hb false
theorem m_hig (s : Sh h) (i : Inv (zI h 60)) {b : Nat} (hb : b < 2) : F_X12_trunksBy 59 (nI b) 1 h = some (higS (zI h 60) b (tin (zI h 60))) := m_trunksBy s i hb true
theorem m_isLevelBy (s : Sh h) (i : Inv (zI h 60)) {b : Nat} (hb : b < 2) (n : Int32) : F_X12_isLevelBy 59 (nI b) n h = some (b2 (lev1 (zI h 60) b n (tin (zI h 60)))) := by
  unfold F_X12_isLevelBy F_X12_isLevelBy_b0 F_X12_isLevelBy_b41 F_X12_isLevelBy_b42
  rw [m_low s i hb, ob_s, gd_d (k59 s), r59_1 s, ob_s, gd_d (k60 s), l60 s, nl_8, ix_t (by omega) (by omega), gd_t, ncl (by omega), z_g, o_g, m_hig s i hb, ob_s, ob_s, gd_d (k60 s), l60 s, ix_t (by omega) (by omega), gd_t]
  unfold lev1
  by_cases c1 : n + lowS (zI h 60) b (tin (zI h 60)) < 0 - zI h 60 8
  · rw [if_pos c1, decide_eq_true c1]
    rfl
  · rw [if_neg c1, decide_eq_false c1]
    by_cases c2 : zI h 60 8 < n + higS (zI h 60) b (tin (zI h 60))
    · rw [if_pos c2, decide_eq_true c2]
      rfl
    · rw [if_neg c2, decide_eq_false c2]
      rfl
theorem m_isLevel (s : Sh h) (i : Inv (zI h 60)) {sf : Nat → Nat} (hs : seated h 66 (nG (zI h 60)) sf) : F_X12_isLevel 59 h = some (b2 (levS (zI h 60) (netS (zI h 60) 0 sf) (netS (zI h 60) 1 sf) (tin (zI h 60)))) := by
  unfold F_X12_isLevel F_X12_isLevel_b0 F_X12_isLevel_b30 F_X12_isLevel_b31
  rw [z_g, o_g, nl_0, nl_1, m_net s i (by omega) hs, ob_s, gd_d (k59 s), m_isLevelBy s i (by omega), ob_s, m_net s i (by omega) hs, ob_s, m_isLevelBy s i (by omega), ob_s]
  unfold levS
  cases lev1 (zI h 60) 0 (netS (zI h 60) 0 sf) (tin (zI h 60)) <;> cases lev1 (zI h 60) 1 (netS (zI h 60) 1 sf) (tin (zI h 60)) <;> rfl
end MSUM
