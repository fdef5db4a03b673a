/-! THE CLASS'S READERS AND SUMS -/
/-- wishes: the class's (lines, size; codes) and the reference's (count, bounds, steps) -/
def cod (k n : Int32) : Int32 := if k = 0 then -10 else if k = 1 then -11 else if k = 2 then -12 else if k = 3 then -13 else if k = 4 then -14 else if k = 5 then -15 else if k = 6 then -8 else if k = 7 then -9 else if k = 8 then -16 - n else if k = 9 then n else if k = 10 then -1 else if k = 11 then -2 else if k = 12 then -3 else if k = 13 then -6 else if k = 14 then -4 else -5
/-- a step, by types: what is on the stack (true: 0 or 1) -/
def tyS (k n : Int32) (st : List Bool) : Option (List Bool) :=
  if k = 9 then (if (0 ≤ n.toInt ∧ n.toInt ≤ 99999) ∧ st.length < 32 then some (false :: st) else none)
  else if k = 8 then (if (0 ≤ n.toInt ∧ n.toInt ≤ 4) ∧ st.length < 32 then some (true :: st) else none)
  else if k = 6 ∨ k = 7 then (if st.length < 32 then some (true :: st) else none)
  else if k = 0 ∨ k = 1 ∨ k = 2 ∨ k = 3 ∨ k = 4 ∨ k = 5 then (if st.length < 32 then some (false :: st) else none)
  else if k = 13 then (match st with
    | true :: r => some (true :: r)
    | _ => none)
  else if k = 10 then (match st with
    | false :: false :: r => some (false :: r)
    | _ => none)
  else if k = 11 ∨ k = 12 then (match st with
    | false :: false :: r => some (true :: r)
    | _ => none)
  else if k = 14 ∨ k = 15 then (match st with
    | true :: true :: r => some (true :: r)
    | _ => none)
  else none
/-- the steps from i, n of them -/
def tyR (m : Nat → Int32) : Nat → Nat → List Bool → Option (List Bool)
  | _, 0, st => some st
  | i, n + 1, st => ob (tyS (m (17 + 2 * i)) (m (18 + 2 * i)) st) fun st' => tyR m (i + 1) n st'
def wN (m : Nat → Int32) (w : Nat) : Nat := (m w).toNatClampNeg
/-- the reference's wishes are right by types -/
def WOk (m : Nat → Int32) : Prop := m 0 = nI (wN m 0) ∧ wN m 0 ≤ 8 ∧ (∀ w, w < wN m 0 → m (1 + 2 * w) = nI (wN m (1 + 2 * w)) ∧ m (2 + 2 * w) = nI (wN m (2 + 2 * w)) ∧ wN m (1 + 2 * w) ≤ wN m (2 + 2 * w) ∧ wN m (2 + 2 * w) + w < 400 ∧ wN m (1 + 2 * w) = (if w = 0 then 0 else wN m (2 * w)) ∧ tyR m (wN m (1 + 2 * w)) (wN m (2 + 2 * w) - wN m (1 + 2 * w)) [] = some [true])
def wEnd (m : Nat → Int32) : Nat := if wN m 0 = 0 then 0 else wN m (2 * wN m 0) + wN m 0
def WR (a c m : Nat → Int32) : Prop := WOk m ∧ a 0 = m 0 ∧ a 3 = nI (wEnd m) ∧ ∀ w, w < wN m 0 → c (wN m (2 + 2 * w) + w) = -7 ∧ ∀ j, wN m (1 + 2 * w) ≤ j → j < wN m (2 + 2 * w) → c (j + w) = cod (m (17 + 2 * j)) (m (18 + 2 * j))
/-- the house at B is as the world f -/
def HR (I : Nat → Nat → Int32) (B : Nat) (f : Nat → Int32) : Prop :=
  (I B 0 = f 0 ∧ I B 5 = f 1 ∧ I (B + 8) 0 = f 2 ∧ I B 14 = f 3 ∧ I (B + 12) 0 = f 4 ∧ I B 17 = f 5 ∧ I B 11 = f 6 ∧ I B 10 = f 7 ∧ I B 12 = f 8 ∧ I B 13 = f 9 ∧ I B 15 = f 10) ∧
  (∀ r, r < 8 → I (B + 1) r = f (11 + 4 * r) ∧ I (B + 2) r = f (12 + 4 * r) ∧ I (B + 3) r = f (13 + 4 * r) ∧ I (B + 4) r = f (14 + 4 * r)) ∧
  (∀ g, g < 5 → I (B + 5) g = f (43 + 2 * g) ∧ I (B + 6) g = f (44 + 2 * g)) ∧
  (∀ t, t < 6 → I (B + 9) t = f (53 + 3 * t) ∧ I (B + 10) t = f (54 + 3 * t) ∧ I (B + 11) t = f (55 + 3 * t)) ∧
  (∀ k, k < 8 → I (B + 16) k = f (131 + 2 * k) ∧ I (B + 17) k = f (132 + 2 * k)) ∧
  (∀ b, b < nB f → I (B + 13) b = f (71 + 3 * b) ∧ I (B + 14) b = f (72 + 3 * b) ∧ I (B + 15) b = f (73 + 3 * b)) ∧
  (∀ g, g < nG f → WR (I (B + 18 + 3 * g)) (I (B + 19 + 3 * g)) (fun k => f (147 + 817 * g + k)))
section CSUM
variable {h : Hp} {f : Nat → Int32}
/-- a row of places: the cell P holds X (b = 0) or Y (b = 1) -/
def PL (h : Hp) (P : Nat) (f : Nat → Int32) (b : Nat) : Prop := kd h P = 13 ∧ zl h P = 8 ∧ ∀ r, r < 8 → zI h P r = f (11 + 4 * r + b)
theorem pl4 (s : Sh h) (c : HR (zI h) 3 f) : PL h 4 f 0 := by
  refine ⟨by unfold Sh at s; simp only [s], by unfold Sh at s; simp only [s], fun r hr => (c.2.1 r hr).1⟩
theorem pl5 (s : Sh h) (c : HR (zI h) 3 f) : PL h 5 f 1 := by
  refine ⟨by unfold Sh at s; simp only [s], by unfold Sh at s; simp only [s], fun r hr => ?_⟩
  rw [show 11 + 4 * r + 1 = 12 + 4 * r by omega]
  exact (c.2.1 r hr).2.1
theorem k3 (s : Sh h) : kd h 3 = 2 := by unfold Sh at s; simp only [s]
theorem r3_1 (s : Sh h) : zR h 3 1 = some 4 := by unfold Sh at s; simp only [s]
theorem r3_2 (s : Sh h) : zR h 3 2 = some 5 := by unfold Sh at s; simp only [s]
theorem r3_3 (s : Sh h) : zR h 3 3 = some 6 := by unfold Sh at s; simp only [s]
theorem r3_4 (s : Sh h) : zR h 3 4 = some 7 := by unfold Sh at s; simp only [s]
theorem r3_6 (s : Sh h) : zR h 3 6 = some 8 := by unfold Sh at s; simp only [s]
theorem r3_7 (s : Sh h) : zR h 3 7 = some 9 := by unfold Sh at s; simp only [s]
theorem r3_8 (s : Sh h) : zR h 3 8 = some 10 := by unfold Sh at s; simp only [s]
theorem r3_9 (s : Sh h) : zR h 3 9 = some 11 := by unfold Sh at s; simp only [s]
theorem r3_16 (s : Sh h) : zR h 3 16 = some 15 := by unfold Sh at s; simp only [s]
theorem k4 (s : Sh h) : kd h 4 = 13 := by unfold Sh at s; simp only [s]
theorem k5 (s : Sh h) : kd h 5 = 13 := by unfold Sh at s; simp only [s]
theorem k6 (s : Sh h) : kd h 6 = 13 := by unfold Sh at s; simp only [s]
theorem k7 (s : Sh h) : kd h 7 = 13 := by unfold Sh at s; simp only [s]
theorem k8 (s : Sh h) : kd h 8 = 13 := by unfold Sh at s; simp only [s]
theorem k9 (s : Sh h) : kd h 9 = 13 := by unfold Sh at s; simp only [s]
theorem l4 (s : Sh h) : zl h 4 = 8 := by unfold Sh at s; simp only [s]
theorem l5 (s : Sh h) : zl h 5 = 8 := by unfold Sh at s; simp only [s]
theorem l6 (s : Sh h) : zl h 6 = 8 := by unfold Sh at s; simp only [s]
theorem l7 (s : Sh h) : zl h 7 = 8 := by unfold Sh at s; simp only [s]
theorem l8 (s : Sh h) : zl h 8 = 5 := by unfold Sh at s; simp only [s]
theorem l9 (s : Sh h) : zl h 9 = 5 := by unfold Sh at s; simp only [s]
theorem x_hasRoom (s : Sh h) (i : Inv f) (c : HR (zI h) 3 f) (v : Int32) : F_X2_hasRoom 3 v h = some (b2 (isIn v (nR f))) := by
  unfold F_X2_hasRoom F_X2_hasRoom_b0 F_X2_hasRoom_b16 F_X2_hasRoom_b17
  have hn := i.1.2
  rw [z_g, o_g, gd_d (k3 s), c.1.1, i.1.1]
  by_cases h1 : v < 0
  · rw [if_pos h1]
    simp [isIn, h1, b2]
  · rw [if_neg h1]
    obtain ⟨j, hj, rfl⟩ := nI_of h1
    by_cases h2 : j < nR f
    · rw [if_neg (nI_ge h2 (by omega)), isIn_nI h2 (by omega), b2_t]
    · rw [if_pos (nI_le (by omega) hj)]
      simp [isIn, nI_clamp hj, h2, b2]
theorem x_hasGuest (s : Sh h) (i : Inv f) (c : HR (zI h) 3 f) (v : Int32) : F_X2_hasGuest 3 v h = some (b2 (isIn v (nG f))) := by
  unfold F_X2_hasGuest F_X2_hasGuest_b0 F_X2_hasGuest_b16 F_X2_hasGuest_b17
  have hn := i.2.1.2
  rw [z_g, o_g, gd_d (k3 s), c.1.2.1, i.2.1.1]
  by_cases h1 : v < 0
  · rw [if_pos h1]
    simp [isIn, h1, b2]
  · rw [if_neg h1]
    obtain ⟨j, hj, rfl⟩ := nI_of h1
    by_cases h2 : j < nG f
    · rw [if_neg (nI_ge h2 (by omega)), isIn_nI h2 (by omega), b2_t]
    · rw [if_pos (nI_le (by omega) hj)]
      simp [isIn, nI_clamp hj, h2, b2]
theorem x_hasReading (s : Sh h) (i : Inv f) (c : HR (zI h) 3 f) (v : Int32) : F_X2_hasReading 3 v h = some (b2 (isIn v (nD f))) := by
  unfold F_X2_hasReading F_X2_hasReading_b0 F_X2_hasReading_b16 F_X2_hasReading_b17
  have hn := i.2.2.2.2.2.1.2
  rw [z_g, o_g, gd_d (k3 s), c.1.2.2.2.2.2.1, i.2.2.2.2.2.1.1]
  by_cases h1 : v < 0
  · rw [if_pos h1]
    simp [isIn, h1, b2]
  · rw [if_neg h1]
    obtain ⟨j, hj, rfl⟩ := nI_of h1
    by_cases h2 : j < nD f
    · rw [if_neg (nI_ge h2 (by omega)), isIn_nI h2 (by omega), b2_t]
    · rw [if_pos (nI_le (by omega) hj)]
      simp [isIn, nI_clamp hj, h2, b2]
theorem x_netOfThings (s : Sh h) (i : Inv f) (c : HR (zI h) 3 f) {P b q : Nat} (p : PL h P f b) (hq : q < 8) : F_X2_netOfThings 3 P (nI q) h = some (thg f b q) := by
  unfold F_X2_netOfThings F_X2_netOfThings_b0
  obtain ⟨p1, p2, p3⟩ := p
  have hn := i.1.2
  rw [gd_d (k3 s), gd_d p1, p2, ix_t (by omega) (by omega), gd_t, ncl (by omega), p3 q hq, c.1.2.2.2.2.2.2.2.1]
  refine ob_p (iter_run (fun j => (accN (f 7 * f (11 + 4 * q + b)) (fun r => f (14 + 4 * r) * f (11 + 4 * r + b)) j, nI j)) (nR f) _ (fun j hj => ?_) ?_ (FU_lt (by omega))) _
  · show F_X2_netOfThings_l12 3 P (accN (f 7 * f (11 + 4 * q + b)) (fun r => f (14 + 4 * r) * f (11 + 4 * r + b)) j) (nI j) h = _
    unfold F_X2_netOfThings_l12
    rw [gd_d (k3 s), c.1.1, i.1.1, if_neg (nI_ge hj (by omega)), r3_4 s, ob_s, gd_d (k7 s), l7 s, ix_t (by omega) (by omega), gd_t, gd_d p1, p2, ix_t (by omega) (by omega), gd_t, ncl (by omega), p3 j (by omega), nI_1, (c.2.1 j (by omega)).2.2.2]
    rfl
  · show F_X2_netOfThings_l12 3 P (accN (f 7 * f (11 + 4 * q + b)) (fun r => f (14 + 4 * r) * f (11 + 4 * r + b)) (nR f)) (nI (nR f)) h = _
    unfold F_X2_netOfThings_l12
    rw [gd_d (k3 s), c.1.1, ← i.1.1, if_pos (Int32.le_refl _)]
    rfl
theorem x_netOfGuests (s : Sh h) (i : Inv f) (c : HR (zI h) 3 f) {P b Q : Nat} (p : PL h P f b) (hk : kd h Q = 13) (hl : zl h Q = 5) {sf : Nat → Nat} (hs : seated h Q (nG f) sf) : F_X2_netOfGuests 3 P Q h = some (gst f b sf) := by
  unfold F_X2_netOfGuests F_X2_netOfGuests_b0
  obtain ⟨p1, p2, p3⟩ := p
  have hn := i.2.1.2
  refine ob_p (iter_run (fun j => (accN 0 (fun g => f (43 + 2 * g) * f (11 + 4 * sf g + b)) j, nI j)) (nG f) _ (fun j hj => ?_) ?_ (FU_lt (by omega))) _
  · show F_X2_netOfGuests_l5 3 P Q (accN 0 (fun g => f (43 + 2 * g) * f (11 + 4 * sf g + b)) j) (nI j) h = _
    unfold F_X2_netOfGuests_l5
    obtain ⟨h1, h2⟩ := hs j hj
    rw [gd_d (k3 s), c.1.2.1, i.2.1.1, if_neg (nI_ge hj (by omega)), r3_6 s, ob_s, gd_d (k8 s), l8 s, ix_t (by omega) (by omega), gd_t, gd_d hk, hl, ix_t (by omega) (by omega), gd_t, gd_d p1, p2, ncl (by omega), h1, ix_t (by omega) (by omega), gd_t, ncl (by omega), p3 _ h2, nI_1, (c.2.2.1 j (by omega)).1]
    rfl
  · show F_X2_netOfGuests_l5 3 P Q (accN 0 (fun g => f (43 + 2 * g) * f (11 + 4 * sf g + b)) (nG f)) (nI (nG f)) h = _
    unfold F_X2_netOfGuests_l5
    rw [gd_d (k3 s), c.1.2.1, ← i.2.1.1, if_pos (Int32.le_refl _)]
    rfl
theorem seat9 (i : Inv f) (c : HR (zI h) 3 f) : seated h 9 (nG f) (sit f) := fun g hg => by
  have h5 := i.2.1.2
  have h8 := i.1.2
  obtain ⟨-, h2, h3⟩ := igs i g hg
  exact ⟨((c.2.2.1 g (by omega)).2).trans h2, by omega⟩
theorem x_net (s : Sh h) (i : Inv f) (c : HR (zI h) 3 f) {P b : Nat} (p : PL h P f b) : F_X2_net 3 P h = some (netS f b (sit f)) := by
  unfold F_X2_net F_X2_net_b0
  have e6 := (iS i)
  rw [gd_d (k3 s), c.1.2.2.2.2.2.2.1, e6.1, x_netOfThings s i c p e6.2.1, ob_s, r3_7 s, ob_s, x_netOfGuests s i c p (k9 s) (l9 s) (seat9 i c), ob_s]
  rfl
/-- trunks at T: as in f, but they lie as tf says -/
def TV (h : Hp) (T : Nat) (f : Nat → Int32) (tf : Nat → Nat) : Prop := (kd h T = 7 ∧ zR h T 1 = some (T + 1) ∧ zR h T 2 = some (T + 2) ∧ zR h T 3 = some (T + 3)) ∧ (kd h (T + 1) = 13 ∧ kd h (T + 2) = 13 ∧ kd h (T + 3) = 13 ∧ zl h (T + 1) = 6 ∧ zl h (T + 2) = 6 ∧ zl h (T + 3) = 6) ∧ zI h T 0 = f 2 ∧ ∀ t, t < nT f → zI h (T + 1) t = f (53 + 3 * t) ∧ zI h (T + 2) t = f (54 + 3 * t) ∧ zI h (T + 3) t = nI (tf t) ∧ tf t < 8
theorem tv11 (s : Sh h) (i : Inv f) (c : HR (zI h) 3 f) : TV h 11 f (tin f) := by
  refine ⟨by unfold Sh at s; simp only [s, and_self], by unfold Sh at s; simp only [s, and_self], c.1.2.2.1, fun t ht => ?_⟩
  have h6 := i.2.2.1.2
  have h8 := i.1.2
  obtain ⟨-, -, -, h2, h3⟩ := itr i t ht
  obtain ⟨q1, q2, q3⟩ := c.2.2.2.1 t (by omega)
  exact ⟨q1, q2, q3.trans h2, by omega⟩
theorem x_lowest (i : Inv f) {T P b : Nat} {tf : Nat → Nat} (t : TV h T f tf) (p : PL h P f b) : F_X8_lowest T P h = some (lowS f b tf) := by
  unfold F_X8_lowest F_X8_lowest_b0
  obtain ⟨p1, p2, p3⟩ := p
  obtain ⟨⟨t1, t2, t3, t4⟩, ⟨u1, u2, u3, u4, u5, u6⟩, t5, t6⟩ := t
  have hn := i.2.2.1.2
  refine ob_p (iter_run (fun j => (accN 0 (fun k => f (11 + 4 * tf k + b) * (if 0 ≤ f (11 + 4 * tf k + b) then f (53 + 3 * k) else f (54 + 3 * k))) j, nI j)) (nT f) _ (fun j hj => ?_) ?_ (FU_lt (by omega))) _
  · show F_X8_lowest_l4 T P (accN 0 (fun k => f (11 + 4 * tf k + b) * (if 0 ≤ f (11 + 4 * tf k + b) then f (53 + 3 * k) else f (54 + 3 * k))) j) (nI j) h = _
    unfold F_X8_lowest_l4 F_X8_lowest_b45
    obtain ⟨h1, h2, h3, h4⟩ := t6 j hj
    rw [gd_d t1, t5, i.2.2.1.1, if_neg (nI_ge hj (by omega)), t4, ob_s, gd_d u3, u6, ix_t (by omega) (by omega), gd_t, gd_d p1, p2, ncl (by omega), h3, ix_t (by omega) (by omega), gd_t, ncl (by omega), p3 _ h4, t2, ob_s, gd_d u1, u4, ix_t (by omega) (by omega), gd_t, t3, ob_s, gd_d u2, u5, ix_t (by omega) (by omega), gd_t, h1, h2, nI_1]
    by_cases q : 0 ≤ f (11 + 4 * tf j + b)
    · rw [if_pos q]
      show _ = some (Sum.inl (accN 0 _ j + f (11 + 4 * tf j + b) * (if 0 ≤ f (11 + 4 * tf j + b) then f (53 + 3 * j) else f (54 + 3 * j)), nI (j + 1)))
      rw [if_pos q]
    · rw [if_neg q]
      show _ = some (Sum.inl (accN 0 _ j + f (11 + 4 * tf j + b) * (if 0 ≤ f (11 + 4 * tf j + b) then f (53 + 3 * j) else f (54 + 3 * j)), nI (j + 1)))
      rw [if_neg q]
  · show F_X8_lowest_l4 T P (accN 0 (fun k => f (11 + 4 * tf k + b) * (if 0 ≤ f (11 + 4 * tf k + b) then f (53 + 3 * k) else f (54 + 3 * k))) (nT f)) (nI (nT f)) h = _
    unfold F_X8_lowest_l4
    rw [gd_d t1, t5, ← i.2.2.1.1, if_pos (Int32.le_refl _)]
    rfl
theorem x_highest (i : Inv f) {T P b : Nat} {tf : Nat → Nat} (t : TV h T f tf) (p : PL h P f b) : F_X8_highest T P h = some (higS f b tf) := by
  unfold F_X8_highest F_X8_highest_b0
  obtain ⟨p1, p2, p3⟩ := p
  obtain ⟨⟨t1, t2, t3, t4⟩, ⟨u1, u2, u3, u4, u5, u6⟩, t5, t6⟩ := t
  have hn := i.2.2.1.2
  refine ob_p (iter_run (fun j => (accN 0 (fun k => f (11 + 4 * tf k + b) * (if 0 ≤ f (11 + 4 * tf k + b) then f (54 + 3 * k) else f (53 + 3 * k))) j, nI j)) (nT f) _ (fun j hj => ?_) ?_ (FU_lt (by omega))) _
  · show F_X8_highest_l4 T P (accN 0 (fun k => f (11 + 4 * tf k + b) * (if 0 ≤ f (11 + 4 * tf k + b) then f (54 + 3 * k) else f (53 + 3 * k))) j) (nI j) h = _
    unfold F_X8_highest_l4 F_X8_highest_b45
    obtain ⟨h1, h2, h3, h4⟩ := t6 j hj
    rw [gd_d t1, t5, i.2.2.1.1, if_neg (nI_ge hj (by omega)), t4, ob_s, gd_d u3, u6, ix_t (by omega) (by omega), gd_t, gd_d p1, p2, ncl (by omega), h3, ix_t (by omega) (by omega), gd_t, ncl (by omega), p3 _ h4, t3, ob_s, gd_d u2, u5, ix_t (by omega) (by omega), gd_t, t2, ob_s, gd_d u1, u4, ix_t (by omega) (by omega), gd_t, h1, h2, nI_1]
    by_cases q : 0 ≤ f (11 + 4 * tf j + b)
    · rw [if_pos q]
      show _ = some (Sum.inl (accN 0 _ j + f (11 + 4 * tf j + b) * (if 0 ≤ f (11 + 4 * tf j + b) then f (54 + 3 * j) else f (53 + 3 * j)), nI (j + 1)))
      rw [if_pos q]
    · rw [if_neg q]
      show _ = some (Sum.inl (accN 0 _ j + f (11 + 4 * tf j + b) * (if 0 ≤ f (11 + 4 * tf j + b) then f (54 + 3 * j) else f (53 + 3 * j)), nI (j + 1)))
      rw [if_neg q]
  · show F_X8_highest_l4 T P (accN 0 (fun k => f (11 + 4 * tf k + b) * (if 0 ≤ f (11 + 4 * tf k + b) then f (54 + 3 * k) else f (53 + 3 * k))) (nT f)) (nI (nT f)) h = _
    unfold F_X8_highest_l4
    rw [gd_d t1, t5, ← i.2.2.1.1, if_pos (Int32.le_refl _)]
    rfl
theorem x_isLevelAt (s : Sh h) (i : Inv f) (c : HR (zI h) 3 f) {T : Nat} {tf : Nat → Nat} (t : TV h T f tf) (x y : Int32) : F_X2_isLevelAt 3 x y T h = some (b2 (levS f x y tf)) := by
  unfold F_X2_isLevelAt F_X2_isLevelAt_b0 F_X2_isLevelAt_b74 F_X2_isLevelAt_b75
  have p4 := pl4 s c
  have p5 := pl5 s c
  rw [z_g, o_g, gd_d (k3 s), r3_1 s, ob_s, x_lowest i t p4, ob_s, gd_d t.1.1, ob_s, x_highest i t p4, ob_s, r3_2 s, ob_s, x_lowest i t p5, ob_s, ob_s, x_highest i t p5, ob_s, c.1.2.2.2.2.2.2.2.2.1]
  unfold levS lev1
  by_cases c1 : x + lowS f 0 tf < 0 - f 8
  · rw [if_pos c1, decide_eq_true c1]
    rfl
  · rw [if_neg c1, decide_eq_false c1]
    by_cases c2 : f 8 < x + higS f 0 tf
    · rw [if_pos c2, decide_eq_true c2]
      rfl
    · rw [if_neg c2, decide_eq_false c2]
      by_cases c3 : y + lowS f 1 tf < 0 - f 8
      · rw [if_pos c3, decide_eq_true c3]
        rfl
      · rw [if_neg c3, decide_eq_false c3]
        by_cases c4 : f 8 < y + higS f 1 tf
        · rw [if_pos c4, decide_eq_true c4]
          rfl
        · rw [if_neg c4, decide_eq_false c4]
          rfl
end CSUM
