/-! THE LAW: a round of its loop -/
section LSTEP
variable {hh : Hp} {R c s : Nat}
theorem ixl {L j k : Nat} (h : 6 * j + 6 ≤ L) (hL : L ≤ 3072) (hk : k < 6) : ix (nI (6 * j) + nI k) L = true := by
  rw [nadd]
  exact ix_t (by omega) (by omega)
set_option maxHeartbeats 40000000 in
set_option maxRecDepth 100000 in
theorem law_step (xs : Nat → Int32) {L j : Nat} (g : GS hh) (hj : 6 * j + 6 ≤ L) (hL : L ≤ 3072) (hc : potC hh + (R + 1) ≤ c) (hs : potS hh + 6 * (R + 1) ≤ s) : ST (nI (6 * j) + 6) R (F_L_law_l23 xs L 3000 0 59 72 (nI (6 * j)) (hh, c, s)) := by
  have cd : ¬ Int32.ofNat L - 6 < nI (6 * j) := by
    show ¬ nI L - nI 6 < nI (6 * j)
    rw [nsub (by omega)]
    exact nI_nlt (by omega) (by omega)
  have i0 : ix (nI (6 * j)) L = true := ix_t (by omega) (by omega)
  have i1 : ix (nI (6 * j) + (1 : Int32)) L = true := ixl (k := 1) hj hL (by omega)
  have i2 : ix (nI (6 * j) + (2 : Int32)) L = true := ixl (k := 2) hj hL (by omega)
  have i3 : ix (nI (6 * j) + (3 : Int32)) L = true := ixl (k := 3) hj hL (by omega)
  have i4 : ix (nI (6 * j) + (4 : Int32)) L = true := ixl (k := 4) hj hL (by omega)
  have i5 : ix (nI (6 * j) + (5 : Int32)) L = true := ixl (k := 5) hj hL (by omega)
  unfold F_L_law_l23
  rw [if_neg cd, i0, gd_t]
  simp only [F_L_law_b726, F_L_law_b753, F_L_law_b1141, F_L_law_b1159, F_L_law_b1182, F_L_law_b1200, F_L_law_b1279, F_L_law_b1297, i1, i2, i3, i4, i5, gd_t]
  generalize xs (nI (6 * j)).toNatClampNeg &&& (63 : Int32) = op
  generalize xs (nI (6 * j) + (1 : Int32)).toNatClampNeg = a1
  generalize xs (nI (6 * j) + (2 : Int32)).toNatClampNeg = a2
  generalize xs (nI (6 * j) + (3 : Int32)).toNatClampNeg = a3
  generalize xs (nI (6 * j) + (4 : Int32)).toNatClampNeg = a4
  generalize xs (nI (6 * j) + (5 : Int32)).toNatClampNeg = a5
  by_cases o : op = 0
  · rw [if_pos o]
    exact t_A g (j_feed g a1 a2 a3 a4 a5) (fun _ => rfl) hc hs
  rw [if_neg o]
  clear o
  by_cases o : op = 1
  · rw [if_pos o]
    exact t_A g (j_end g a1) (fun _ => rfl) hc hs
  rw [if_neg o]
  clear o
  by_cases o : op = 2
  · rw [if_pos o]
    exact t_B (j_house g ) (fun _ => rfl) hc hs
  rw [if_neg o]
  clear o
  by_cases o : op = 3
  · rw [if_pos o]
    exact t_B (j_wishes g a1) (fun _ => rfl) hc hs
  rw [if_neg o]
  clear o
  by_cases o : op = 4
  · rw [if_pos o]
    exact t_B (j_book g ) (fun _ => rfl) hc hs
  rw [if_neg o]
  clear o
  by_cases o : op = 5
  · rw [if_pos o]
    exact t_R g (j_fault g ) (fun _ => rfl) hc hs
  rw [if_neg o]
  clear o
  by_cases o : op = 6
  · rw [if_pos o]
    exact t_B (j_room g a1 a2) (fun _ => rfl) hc hs
  rw [if_neg o]
  clear o
  by_cases o : op = 7
  · rw [if_pos o]
    exact t_B (j_where g a1) (fun _ => rfl) hc hs
  rw [if_neg o]
  clear o
  by_cases o : op = 8
  · rw [if_pos o]
    exact t_B (j_trunk g a1 a2) (fun _ => rfl) hc hs
  rw [if_neg o]
  clear o
  by_cases o : op = 9
  · rw [if_pos o]
    exact t_B (j_go g a1 a2) (fun _ => rfl) hc hs
  rw [if_neg o]
  clear o
  by_cases o : op = 10
  · rw [if_pos o]
    by_cases z : a1 = 0
    · simp only [if_pos z]
      have jm : JB hh (F_L_moment 0 0 a2 72) (F_X12_moment 59 0 a2) := j_moment g false a2
      exact t_B jm (fun _ => rfl) hc hs
    · simp only [if_neg z]
      have jm : JB hh (F_L_moment 0 1 a2 72) (F_X12_moment 59 1 a2) := j_moment g true a2
      exact t_B jm (fun _ => rfl) hc hs
  rw [if_neg o]
  clear o
  by_cases o : op = 11
  · rw [if_pos o]
    exact t_R g (j_level g ) (fun _ => rfl) hc hs
  rw [if_neg o]
  clear o
  by_cases o : op = 12
  · rw [if_pos o]
    exact t_R g (j_seating g ) (fun _ => rfl) hc hs
  rw [if_neg o]
  clear o
  by_cases o : op = 13
  · rw [if_pos o]
    exact t_B (j_met g a1) (fun _ => rfl) hc hs
  rw [if_neg o]
  clear o
  by_cases o : op = 14
  · rw [if_pos o]
    exact t_B (j_day g a1) (fun _ => rfl) hc hs
  rw [if_neg o]
  clear o
  by_cases o : op = 15
  · rw [if_pos o]
    exact t_A g (j_live g ) (fun _ => rfl) hc hs
  rw [if_neg o]
  clear o
  by_cases o : op = 16
  · rw [if_pos o]
    exact t_B (j_seats g a1) (fun _ => rfl) hc hs
  rw [if_neg o]
  clear o
  by_cases o : op = 17
  · rw [if_pos o]
    exact t_B (j_bells g a1 a2) (fun _ => rfl) hc hs
  rw [if_neg o]
  clear o
  by_cases o : op = 18
  · rw [if_pos o]
    exact t_B (j_stove g a1) (fun _ => rfl) hc hs
  rw [if_neg o]
  clear o
  by_cases o : op = 19
  · rw [if_pos o]
    by_cases z : a1 = 0
    · simp only [if_pos z]
      exact t_A g (j_wake g 0) (fun _ => rfl) hc hs
    · simp only [if_neg z]
      exact t_A g (j_wake g 1) (fun _ => rfl) hc hs
  rw [if_neg o]
  clear o
  by_cases o : op = 20
  · rw [if_pos o]
    by_cases z : a1 = 0
    · simp only [if_pos z]
      have jm : JR hh (F_X11_bucket 0 0) (F_X12_bucket 59 0) := j_bucket g false
      exact t_R g jm (fun _ => rfl) hc hs
    · simp only [if_neg z]
      have jm : JR hh (F_X11_bucket 0 1) (F_X12_bucket 59 1) := j_bucket g true
      exact t_R g jm (fun _ => rfl) hc hs
  rw [if_neg o]
  clear o
  by_cases o : op = 21
  · rw [if_pos o]
    exact t_B (j_wing g a1) (fun _ => rfl) hc hs
  rw [if_neg o]
  clear o
  by_cases o : op = 22
  · rw [if_pos o]
    by_cases z : a1 = 0
    · simp only [if_pos z]
      have jm : JR hh (F_X11_unnoticed 0 0) (F_X12_unnoticed 59 0) := j_unnoticed g false
      exact t_R g jm (fun _ => rfl) hc hs
    · simp only [if_neg z]
      have jm : JR hh (F_X11_unnoticed 0 1) (F_X12_unnoticed 59 1) := j_unnoticed g true
      exact t_R g jm (fun _ => rfl) hc hs
  rw [if_neg o]
  clear o
  by_cases o : op = 23
  · rw [if_pos o]
    exact t_B (j_read g a1 a2) (fun _ => rfl) hc hs
  rw [if_neg o]
  clear o
  by_cases o : op = 24
  · rw [if_pos o]
    exact t_B (j_fits g a1) (fun _ => rfl) hc hs
  rw [if_neg o]
  clear o
  by_cases o : op = 25
  · rw [if_pos o]
    exact t_B (j_meeting g a1 a2 a3) (fun _ => rfl) hc hs
  rw [if_neg o]
  clear o
  by_cases o : op = 26
  · rw [if_pos o]
    exact t_B (j_weighed g a1 a2) (fun _ => rfl) hc hs
  rw [if_neg o]
  clear o
  by_cases o : op = 27
  · rw [if_pos o]
    exact t_W (j_weigh g a1 a2) (fun _ => rfl) hc hs
  rw [if_neg o]
  clear o
  by_cases o : op = 28
  · rw [if_pos o]
    exact t_B (j_night g a1) (fun _ => rfl) hc hs
  rw [if_neg o]
  clear o
  by_cases o : op = 29
  · rw [if_pos o]
    exact t_B (j_melt g a1) (fun _ => rfl) hc hs
  rw [if_neg o]
  clear o
  by_cases o : op = 30
  · rw [if_pos o]
    exact t_A g (j_seed g a1) (fun _ => rfl) hc hs
  rw [if_neg o]
  clear o
  by_cases o : op = 31
  · rw [if_pos o]
    exact t_B (j_rent g a1 a2 a3) (fun _ => rfl) hc hs
  rw [if_neg o]
  clear o
  by_cases o : op = 32
  · rw [if_pos o]
    exact t_I g (j_image g) (fun _ => rfl) hc hs
  rw [if_neg o]
  clear o
  by_cases o : op = 33
  · rw [if_pos o]
    exact t_A g (j_back g ) (fun _ => rfl) hc hs
  rw [if_neg o]
  clear o
  by_cases o : op = 34
  · rw [if_pos o]
    exact t_R g (j_count g a1) (fun _ => rfl) hc hs
  rw [if_neg o]
  clear o
  exact ⟨hh, c, s, rfl, g, by omega, by omega⟩
end LSTEP
