/-! CALLS: moment, rent, seed, go, end, count -/
section CALLS2
variable {h : Hp}
-- moment
def momS (f : Nat → Int32) (b : Nat) (w : Int32) : Int32 := netS f b (sit f) + (if w = 0 then 0 else if w = 2 then higS f b (tin f) else lowS f b (tin f))
theorem m_moment (s : Sh h) (i : Inv (zI h 60)) (y : Bool) (w : Int32) : F_X12_moment 59 (b2 y) w h = if isIn w 3 then some (momS (zI h 60) (if y then 1 else 0) w, hT h) else some (0, tk h 1) := by
  have e2 : ∀ H : Hp, F_X12_in w 0 2 H = some (b2 (isIn w 3)) := fun H => m_inN (n := 3) (by omega) rfl
  simp only [F_X12_moment, F_X12_moment_b0, F_X12_moment_b20, e2, k59 s, r59_1 s, k60 s, l60 s, k0 s, r0_1 s, k3 s, r3_1 s, r3_2 s, r3_3 s, r3_4 s, r3_6 s, r3_7 s, r3_8 s, r3_9 s, r3_16 s, k4 s, k5 s, k6 s, k7 s, k8 s, k9 s, l4 s, l5 s, l6 s, l7 s, l8 s, l9 s, k11 s, r11_1 s, r11_2 s, r11_3 s, k12 s, k13 s, k14 s, l12 s, l13 s, l14 s, k15 s, r0_0 s, k1 s, t0_d, tk_d, t0_k, t0_l, t0_r, t0_60, tk_k, tk_l, tk_r, tk_60, hS_k, hS_l, hS_r, hS_60, one0, b2_t, b2_f, Bool.not_true, Bool.not_false, Bool.false_eq_true, gd_t, ob_s, ob2_s, ob4_s, sm_l, sm_r, ac_s, decide_true, decide_false, eq_self, ne_eq, not_false_eq_true, not_true_eq_false, if_true, if_false, ite_true, ite_false, reduceIte, or_true, true_or, or_false, false_or, and_true, true_and, Bool.false_eq_true, reduceCtorEq]
  cases q : isIn w 3 with
  | false => simp only [m_thr1 (t0_s s), k59 s, r59_1 s, k60 s, l60 s, k0 s, r0_1 s, k3 s, r3_1 s, r3_2 s, r3_3 s, r3_4 s, r3_6 s, r3_7 s, r3_8 s, r3_9 s, r3_16 s, k4 s, k5 s, k6 s, k7 s, k8 s, k9 s, l4 s, l5 s, l6 s, l7 s, l8 s, l9 s, k11 s, r11_1 s, r11_2 s, r11_3 s, k12 s, k13 s, k14 s, l12 s, l13 s, l14 s, k15 s, r0_0 s, k1 s, t0_d, tk_d, t0_k, t0_l, t0_r, t0_60, tk_k, tk_l, tk_r, tk_60, hS_k, hS_l, hS_r, hS_60, one0, b2_t, b2_f, Bool.not_true, Bool.not_false, Bool.false_eq_true, gd_t, ob_s, ob2_s, ob4_s, sm_l, sm_r, ac_s, decide_true, decide_false, eq_self, ne_eq, not_false_eq_true, not_true_eq_false, if_true, if_false, ite_true, ite_false, reduceIte, or_true, true_or, or_false, false_or, and_true, true_and, Bool.false_eq_true, reduceCtorEq]
  | true =>
    have n0 : ∀ H : Hp, F_X12_net 59 0 H = F_X12_net 59 (nI 0) H := fun _ => rfl
    have n1 : ∀ H : Hp, F_X12_net 59 1 H = F_X12_net 59 (nI 1) H := fun _ => rfl
    have o0 : ∀ (H : Hp) (z : Int32), F_X12_trunksBy 59 0 z H = F_X12_trunksBy 59 (nI 0) z H := fun _ _ => rfl
    have o1 : ∀ (H : Hp) (z : Int32), F_X12_trunksBy 59 1 z H = F_X12_trunksBy 59 (nI 1) z H := fun _ _ => rfl
    simp only [m_thr0 (t0_s s), m_sitsT s i, F_X12_moment_b42, F_X12_moment_b68, F_X12_moment_b71, n0, n1, o0, o1, m_net (hT_sh s) (hT_i i) (show 0 < 2 by omega) (hT_s' i), m_net (hT_sh s) (hT_i i) (show 1 < 2 by omega) (hT_s' i), m_low (hT_sh s) (hT_i i) (show 0 < 2 by omega), m_low (hT_sh s) (hT_i i) (show 1 < 2 by omega), m_hig (hT_sh s) (hT_i i) (show 0 < 2 by omega), m_hig (hT_sh s) (hT_i i) (show 1 < 2 by omega), hT_60, k59 (hT_sh s), k59 s, r59_1 s, k60 s, l60 s, k0 s, r0_1 s, k3 s, r3_1 s, r3_2 s, r3_3 s, r3_4 s, r3_6 s, r3_7 s, r3_8 s, r3_9 s, r3_16 s, k4 s, k5 s, k6 s, k7 s, k8 s, k9 s, l4 s, l5 s, l6 s, l7 s, l8 s, l9 s, k11 s, r11_1 s, r11_2 s, r11_3 s, k12 s, k13 s, k14 s, l12 s, l13 s, l14 s, k15 s, r0_0 s, k1 s, t0_d, tk_d, t0_k, t0_l, t0_r, t0_60, tk_k, tk_l, tk_r, tk_60, hS_k, hS_l, hS_r, hS_60, one0, b2_t, b2_f, Bool.not_true, Bool.not_false, Bool.false_eq_true, gd_t, ob_s, ob2_s, ob4_s, sm_l, sm_r, ac_s, decide_true, decide_false, eq_self, ne_eq, not_false_eq_true, not_true_eq_false, if_true, if_false, ite_true, ite_false, reduceIte, or_true, true_or, or_false, false_or, and_true, true_and, Bool.false_eq_true, reduceCtorEq]
    unfold momS
    have z1 : ((1 : Int32) = 0) = False := eq_false (by decide)
    have z2 : ((2 : Int32) = 0) = False := eq_false (by decide)
    have z3 : ((1 : Int32) = 2) = False := eq_false (by decide)
    cases y <;> rcases in3 q with rfl | rfl | rfl <;> simp only [z1, z2, z3, t0_d, tk_d, t0_k, t0_l, t0_r, t0_60, tk_k, tk_l, tk_r, tk_60, hS_k, hS_l, hS_r, hS_60, one0, b2_t, b2_f, Bool.not_true, Bool.not_false, Bool.false_eq_true, gd_t, ob_s, ob2_s, ob4_s, sm_l, sm_r, ac_s, decide_true, decide_false, eq_self, ne_eq, not_false_eq_true, not_true_eq_false, if_true, if_false, ite_true, ite_false, reduceIte, or_true, true_or, or_false, false_or, and_true, true_and, Bool.false_eq_true, reduceCtorEq]
theorem j_moment (g : GS h) (y : Bool) (w : Int32) : JB h (F_L_moment 0 (b2 y) w 72) (F_X12_moment 59 (b2 y) w) := by
  obtain ⟨s, i, c, -⟩ := id g
  have tv := tv11 s i c
  cases q : isIn w 3 with
  | false =>
    have e : F_X11_moment 0 (b2 y) w h = some (.inr 3, h, 1, 6) := by
      have n0 : (w = 0) = False := ne_isIn (j := 0) q (by omega) (by omega)
      have n1 : (w = 1) = False := ne_isIn (j := 1) q (by omega) (by omega)
      have n2 : (w = 2) = False := ne_isIn (j := 2) q (by omega) (by omega)
      cases y <;> simp only [F_X11_moment, F_X11_moment_b0, F_X11_moment_b21, n0, n1, n2, k59 s, r59_1 s, k60 s, l60 s, k0 s, r0_1 s, k3 s, r3_1 s, r3_2 s, r3_3 s, r3_4 s, r3_6 s, r3_7 s, r3_8 s, r3_9 s, r3_16 s, k4 s, k5 s, k6 s, k7 s, k8 s, k9 s, l4 s, l5 s, l6 s, l7 s, l8 s, l9 s, k11 s, r11_1 s, r11_2 s, r11_3 s, k12 s, k13 s, k14 s, l12 s, l13 s, l14 s, k15 s, r0_0 s, k1 s, t0_d, tk_d, t0_k, t0_l, t0_r, t0_60, tk_k, tk_l, tk_r, tk_60, hS_k, hS_l, hS_r, hS_60, one0, b2_t, b2_f, Bool.not_true, Bool.not_false, Bool.false_eq_true, gd_t, ob_s, ob2_s, ob4_s, sm_l, sm_r, ac_s, decide_true, decide_false, eq_self, ne_eq, not_false_eq_true, not_true_eq_false, if_true, if_false, ite_true, ite_false, reduceIte, or_true, true_or, or_false, false_or, and_true, true_and, Bool.false_eq_true, reduceCtorEq]
    refine JB_t g (k := 1) (by decide) ?_ ⟨0, zI (tk h 1), ?_, tk_m, tk_z⟩
    · unfold F_L_moment; rw [gd_d (k0 s), e, ob4_s]; rfl
    · rw [m_moment s i, q]
      rfl
  | true =>
    have e : F_X11_moment 0 (b2 y) w h = some (.inl (momS (zI h 60) (if y then 1 else 0) w), h, 0, 0) := by
      have z1 : ((1 : Int32) = 0) = False := eq_false (by decide)
      have z2 : ((2 : Int32) = 0) = False := eq_false (by decide)
      have z3 : ((1 : Int32) = 2) = False := eq_false (by decide)
      have z4 : ((2 : Int32) = 1) = False := eq_false (by decide)
      unfold momS
      cases y <;> rcases in3 q with rfl | rfl | rfl <;> simp only [F_X11_moment, F_X11_moment_b0, F_X11_moment_b21, x_net s i c (pl4 s c), x_net s i c (pl5 s c), x_lowest i tv (pl4 s c), x_lowest i tv (pl5 s c), x_highest i tv (pl4 s c), x_highest i tv (pl5 s c), z1, z2, z3, z4, Int32.add_zero, k59 s, r59_1 s, k60 s, l60 s, k0 s, r0_1 s, k3 s, r3_1 s, r3_2 s, r3_3 s, r3_4 s, r3_6 s, r3_7 s, r3_8 s, r3_9 s, r3_16 s, k4 s, k5 s, k6 s, k7 s, k8 s, k9 s, l4 s, l5 s, l6 s, l7 s, l8 s, l9 s, k11 s, r11_1 s, r11_2 s, r11_3 s, k12 s, k13 s, k14 s, l12 s, l13 s, l14 s, k15 s, r0_0 s, k1 s, t0_d, tk_d, t0_k, t0_l, t0_r, t0_60, tk_k, tk_l, tk_r, tk_60, hS_k, hS_l, hS_r, hS_60, one0, b2_t, b2_f, Bool.not_true, Bool.not_false, Bool.false_eq_true, gd_t, ob_s, ob2_s, ob4_s, sm_l, sm_r, ac_s, decide_true, decide_false, eq_self, ne_eq, not_false_eq_true, not_true_eq_false, if_true, if_false, ite_true, ite_false, reduceIte, or_true, true_or, or_false, false_or, and_true, true_and, Bool.false_eq_true, reduceCtorEq]
    refine JB_r g (r := momS (zI h 60) (if y then 1 else 0) w) ?_ ⟨zI (hT h), ?_, hT_m, hT_z⟩
    · unfold F_L_moment; rw [gd_d (k0 s), e, ob4_s]; exact put_out s _
    · refine (m_moment (h := setL h 72 0 (momS (zI h 60) (if y then 1 else 0) w).toInt64) s i y w).trans ?_
      rw [q]
      rfl
-- rent
theorem x_farOf {f : Nat → Int32} (s : Sh h) (c : HR (zI h) 3 f) {r : Nat} (hr : r < 8) : F_X2_farOf 3 (nI r) h = some (jabs (f (11 + 4 * r)) + jabs (f (12 + 4 * r))) := by
  simp (disch := omega) only [F_X2_farOf, F_X2_farOf_b0, ix_t, ncl, k59 s, r59_1 s, k60 s, l60 s, k0 s, r0_1 s, k3 s, r3_1 s, r3_2 s, r3_3 s, r3_4 s, r3_6 s, r3_7 s, r3_8 s, r3_9 s, r3_16 s, k4 s, k5 s, k6 s, k7 s, k8 s, k9 s, l4 s, l5 s, l6 s, l7 s, l8 s, l9 s, k11 s, r11_1 s, r11_2 s, r11_3 s, k12 s, k13 s, k14 s, l12 s, l13 s, l14 s, k15 s, r0_0 s, k1 s, gd_t, ob_s, ob2_s, ob4_s, sm_l, sm_r, ac_s, decide_true, decide_false, eq_self, ne_eq, not_false_eq_true, not_true_eq_false, if_true, if_false, ite_true, ite_false, reduceIte, or_true, true_or, or_false, false_or, and_true, true_and, Bool.false_eq_true, reduceCtorEq]
  obtain ⟨c1, c2, -⟩ := c.2.1 r hr
  rw [show zI h 4 r = f (11 + 4 * r) from c1, show zI h 5 r = f (12 + 4 * r) from c2]
def renS (f : Nat → Int32) (j : Nat) (b r : Int32) : Int32 := jmax 0 (b - r * (jabs (f (11 + 4 * sit f j)) + jabs (f (12 + 4 * sit f j))))
def rOk (b r : Int32) : Bool := isIn b 10000 && isIn r 1000
theorem m_rent (s : Sh h) (i : Inv (zI h 60)) (v b r : Int32) : F_X12_rent 59 v b r h = if isIn v (nG (zI h 60)) then (if rOk b r then some (renS (zI h 60) v.toNatClampNeg b r, t0 h) else some (0, tk h 2)) else some (0, tk h 1) := by
  have g5 := iG5 i
  have r8 := iR8 i
  have e2 : ∀ H : Hp, F_X12_in b 0 9999 H = some (b2 (isIn b 10000)) := fun H => m_inN (n := 10000) (by omega) rfl
  have e3 : ∀ H : Hp, F_X12_in r 0 999 H = some (b2 (isIn r 1000)) := fun H => m_inN (n := 1000) (by omega) rfl
  simp only [F_X12_rent, F_X12_rent_b0, F_X12_rent_b41, F_X12_rent_b46, F_X12_rent_b53, e2, e3, m_noGuest (t0_s s) (t0_i i), m_throwsIf (t0_s s), k59 s, r59_1 s, k60 s, l60 s, k0 s, r0_1 s, k3 s, r3_1 s, r3_2 s, r3_3 s, r3_4 s, r3_6 s, r3_7 s, r3_8 s, r3_9 s, r3_16 s, k4 s, k5 s, k6 s, k7 s, k8 s, k9 s, l4 s, l5 s, l6 s, l7 s, l8 s, l9 s, k11 s, r11_1 s, r11_2 s, r11_3 s, k12 s, k13 s, k14 s, l12 s, l13 s, l14 s, k15 s, r0_0 s, k1 s, t0_d, tk_d, t0_k, t0_l, t0_r, t0_60, tk_k, tk_l, tk_r, tk_60, hS_k, hS_l, hS_r, hS_60, one0, b2_t, b2_f, Bool.not_true, Bool.not_false, Bool.false_eq_true, gd_t, ob_s, ob2_s, ob4_s, sm_l, sm_r, ac_s, decide_true, decide_false, eq_self, ne_eq, not_false_eq_true, not_true_eq_false, if_true, if_false, ite_true, ite_false, reduceIte, or_true, true_or, or_false, false_or, and_true, true_and, Bool.false_eq_true, reduceCtorEq]
  unfold rOk
  cases q : isIn v (nG (zI h 60)) with
  | false => simp only [t0_d, tk_d, t0_k, t0_l, t0_r, t0_60, tk_k, tk_l, tk_r, tk_60, hS_k, hS_l, hS_r, hS_60, one0, b2_t, b2_f, Bool.not_true, Bool.not_false, Bool.false_eq_true, gd_t, ob_s, ob2_s, ob4_s, sm_l, sm_r, ac_s, decide_true, decide_false, eq_self, ne_eq, not_false_eq_true, not_true_eq_false, if_true, if_false, ite_true, ite_false, reduceIte, or_true, true_or, or_false, false_or, and_true, true_and, Bool.false_eq_true, reduceCtorEq]
  | true =>
    obtain ⟨j, hj, rfl⟩ := isIn_of (by omega) q
    obtain ⟨-, h1, h2⟩ := igs i j hj
    cases q2 : isIn b 10000 with
    | false => simp only [m_thr1 (t0_s s), Bool.false_and, k59 s, r59_1 s, k60 s, l60 s, k0 s, r0_1 s, k3 s, r3_1 s, r3_2 s, r3_3 s, r3_4 s, r3_6 s, r3_7 s, r3_8 s, r3_9 s, r3_16 s, k4 s, k5 s, k6 s, k7 s, k8 s, k9 s, l4 s, l5 s, l6 s, l7 s, l8 s, l9 s, k11 s, r11_1 s, r11_2 s, r11_3 s, k12 s, k13 s, k14 s, l12 s, l13 s, l14 s, k15 s, r0_0 s, k1 s, t0_d, tk_d, t0_k, t0_l, t0_r, t0_60, tk_k, tk_l, tk_r, tk_60, hS_k, hS_l, hS_r, hS_60, one0, b2_t, b2_f, Bool.not_true, Bool.not_false, Bool.false_eq_true, gd_t, ob_s, ob2_s, ob4_s, sm_l, sm_r, ac_s, decide_true, decide_false, eq_self, ne_eq, not_false_eq_true, not_true_eq_false, if_true, if_false, ite_true, ite_false, reduceIte, or_true, true_or, or_false, false_or, and_true, true_and, Bool.false_eq_true, reduceCtorEq]
    | true =>
      cases q3 : isIn r 1000 with
      | false => simp only [m_thr1 (t0_s s), Bool.and_false, k59 s, r59_1 s, k60 s, l60 s, k0 s, r0_1 s, k3 s, r3_1 s, r3_2 s, r3_3 s, r3_4 s, r3_6 s, r3_7 s, r3_8 s, r3_9 s, r3_16 s, k4 s, k5 s, k6 s, k7 s, k8 s, k9 s, l4 s, l5 s, l6 s, l7 s, l8 s, l9 s, k11 s, r11_1 s, r11_2 s, r11_3 s, k12 s, k13 s, k14 s, l12 s, l13 s, l14 s, k15 s, r0_0 s, k1 s, t0_d, tk_d, t0_k, t0_l, t0_r, t0_60, tk_k, tk_l, tk_r, tk_60, hS_k, hS_l, hS_r, hS_60, one0, b2_t, b2_f, Bool.not_true, Bool.not_false, Bool.false_eq_true, gd_t, ob_s, ob2_s, ob4_s, sm_l, sm_r, ac_s, decide_true, decide_false, eq_self, ne_eq, not_false_eq_true, not_true_eq_false, if_true, if_false, ite_true, ite_false, reduceIte, or_true, true_or, or_false, false_or, and_true, true_and, Bool.false_eq_true, reduceCtorEq]
      | true =>
        simp (disch := omega) only [m_thr0 (t0_s s), Bool.and_true, m_roomOf (t0_s s), h1, m_ofX (t0_s s), m_ofY (t0_s s), m_farOf, ncl, renS, k59 s, r59_1 s, k60 s, l60 s, k0 s, r0_1 s, k3 s, r3_1 s, r3_2 s, r3_3 s, r3_4 s, r3_6 s, r3_7 s, r3_8 s, r3_9 s, r3_16 s, k4 s, k5 s, k6 s, k7 s, k8 s, k9 s, l4 s, l5 s, l6 s, l7 s, l8 s, l9 s, k11 s, r11_1 s, r11_2 s, r11_3 s, k12 s, k13 s, k14 s, l12 s, l13 s, l14 s, k15 s, r0_0 s, k1 s, t0_d, tk_d, t0_k, t0_l, t0_r, t0_60, tk_k, tk_l, tk_r, tk_60, hS_k, hS_l, hS_r, hS_60, one0, b2_t, b2_f, Bool.not_true, Bool.not_false, Bool.false_eq_true, gd_t, ob_s, ob2_s, ob4_s, sm_l, sm_r, ac_s, decide_true, decide_false, eq_self, ne_eq, not_false_eq_true, not_true_eq_false, if_true, if_false, ite_true, ite_false, reduceIte, or_true, true_or, or_false, false_or, and_true, true_and, Bool.false_eq_true, reduceCtorEq]
theorem isIn_le {v : Int32} {n : Nat} {m : Int32} (hn : n < 2147483648) (e : nI n - 1 = m) : isIn v n = (!decide (v < 0) && !decide (m < v)) := by
  rw [← e, isIn_eq hn]
theorem j_rent (g : GS h) (v b r : Int32) : JB h (F_L_rent 0 v b r 72) (F_X12_rent 59 v b r) := by
  obtain ⟨s, i, c, -⟩ := id g
  have g5 := iG5 i
  have r8 := iR8 i
  cases q : isIn v (nG (zI h 60)) with
  | false =>
    have e : F_X11_rent 0 v b r h = some (.inr 2, h, 1, 6) := by
      simp only [F_X11_rent, F_X11_rent_b0, x_hasGuest s i c, q, k59 s, r59_1 s, k60 s, l60 s, k0 s, r0_1 s, k3 s, r3_1 s, r3_2 s, r3_3 s, r3_4 s, r3_6 s, r3_7 s, r3_8 s, r3_9 s, r3_16 s, k4 s, k5 s, k6 s, k7 s, k8 s, k9 s, l4 s, l5 s, l6 s, l7 s, l8 s, l9 s, k11 s, r11_1 s, r11_2 s, r11_3 s, k12 s, k13 s, k14 s, l12 s, l13 s, l14 s, k15 s, r0_0 s, k1 s, t0_d, tk_d, t0_k, t0_l, t0_r, t0_60, tk_k, tk_l, tk_r, tk_60, hS_k, hS_l, hS_r, hS_60, one0, b2_t, b2_f, Bool.not_true, Bool.not_false, Bool.false_eq_true, gd_t, ob_s, ob2_s, ob4_s, sm_l, sm_r, ac_s, decide_true, decide_false, eq_self, ne_eq, not_false_eq_true, not_true_eq_false, if_true, if_false, ite_true, ite_false, reduceIte, or_true, true_or, or_false, false_or, and_true, true_and, Bool.false_eq_true, reduceCtorEq]
    refine JB_t g (k := 1) (by decide) ?_ ⟨0, zI (tk h 1), ?_, tk_m, tk_z⟩
    · unfold F_L_rent; rw [gd_d (k0 s), e, ob4_s]; rfl
    · rw [m_rent s i, q]
      rfl
  | true =>
    obtain ⟨j, hj, rfl⟩ := isIn_of (by omega) q
    obtain ⟨-, h1, h2⟩ := igs i j hj
    have e : F_X11_rent 0 (nI j) b r h = if rOk b r then some (.inl (renS (zI h 60) (nI j).toNatClampNeg b r), h, 0, 0) else some (.inr 0, h, 1, 6) := by
      have c9 : zI h 9 j = nI (sit (zI h 60) j) := ((c.2.2.1 j (by omega)).2).trans h1
      simp (disch := omega) only [F_X11_rent, F_X11_rent_b0, F_X11_rent_b43, x_hasGuest s i c, q, ix_t, ncl, c9, x_farOf s c, renS, k59 s, r59_1 s, k60 s, l60 s, k0 s, r0_1 s, k3 s, r3_1 s, r3_2 s, r3_3 s, r3_4 s, r3_6 s, r3_7 s, r3_8 s, r3_9 s, r3_16 s, k4 s, k5 s, k6 s, k7 s, k8 s, k9 s, l4 s, l5 s, l6 s, l7 s, l8 s, l9 s, k11 s, r11_1 s, r11_2 s, r11_3 s, k12 s, k13 s, k14 s, l12 s, l13 s, l14 s, k15 s, r0_0 s, k1 s, t0_d, tk_d, t0_k, t0_l, t0_r, t0_60, tk_k, tk_l, tk_r, tk_60, hS_k, hS_l, hS_r, hS_60, one0, b2_t, b2_f, Bool.not_true, Bool.not_false, Bool.false_eq_true, gd_t, ob_s, ob2_s, ob4_s, sm_l, sm_r, ac_s, decide_true, decide_false, eq_self, ne_eq, not_false_eq_true, not_true_eq_false, if_true, if_false, ite_true, ite_false, reduceIte, or_true, true_or, or_false, false_or, and_true, true_and, Bool.false_eq_true, reduceCtorEq]
      unfold rOk
      rw [isIn_le (v := b) (n := 10000) (m := 9999) (by omega) rfl, isIn_le (v := r) (n := 1000) (m := 999) (by omega) rfl]
      by_cases b1 : b < 0
      · simp only [b1, gd_t, ob_s, ob2_s, ob4_s, sm_l, sm_r, ac_s, decide_true, decide_false, eq_self, ne_eq, not_false_eq_true, not_true_eq_false, if_true, if_false, ite_true, ite_false, reduceIte, or_true, true_or, or_false, false_or, and_true, true_and, Bool.false_eq_true, reduceCtorEq, Bool.not_true, Bool.false_and, Bool.false_eq_true]
      · by_cases b2 : 9999 < b
        · simp only [b1, b2, gd_t, ob_s, ob2_s, ob4_s, sm_l, sm_r, ac_s, decide_true, decide_false, eq_self, ne_eq, not_false_eq_true, not_true_eq_false, if_true, if_false, ite_true, ite_false, reduceIte, or_true, true_or, or_false, false_or, and_true, true_and, Bool.false_eq_true, reduceCtorEq, Bool.not_true, Bool.not_false, Bool.and_false, Bool.false_and, Bool.false_eq_true]
        · by_cases b3 : r < 0
          · simp only [b1, b2, b3, gd_t, ob_s, ob2_s, ob4_s, sm_l, sm_r, ac_s, decide_true, decide_false, eq_self, ne_eq, not_false_eq_true, not_true_eq_false, if_true, if_false, ite_true, ite_false, reduceIte, or_true, true_or, or_false, false_or, and_true, true_and, Bool.false_eq_true, reduceCtorEq, Bool.not_true, Bool.not_false, Bool.and_false, Bool.false_and, Bool.false_eq_true]
          · by_cases b4 : 999 < r
            · have b5 : ¬ r ≤ 999 := Int32.not_le.mpr b4
              simp only [b1, b2, b3, b4, b5, gd_t, ob_s, ob2_s, ob4_s, sm_l, sm_r, ac_s, decide_true, decide_false, eq_self, ne_eq, not_false_eq_true, not_true_eq_false, if_true, if_false, ite_true, ite_false, reduceIte, or_true, true_or, or_false, false_or, and_true, true_and, Bool.false_eq_true, reduceCtorEq, Bool.not_true, Bool.not_false, Bool.and_false, Bool.false_and, Bool.false_eq_true]
            · have b5 : r ≤ 999 := Int32.not_lt.mp b4
              simp only [b1, b2, b3, b4, b5, gd_t, ob_s, ob2_s, ob4_s, sm_l, sm_r, ac_s, decide_true, decide_false, eq_self, ne_eq, not_false_eq_true, not_true_eq_false, if_true, if_false, ite_true, ite_false, reduceIte, or_true, true_or, or_false, false_or, and_true, true_and, Bool.false_eq_true, reduceCtorEq, Bool.not_true, Bool.not_false, Bool.and_true, Bool.false_eq_true]
              rw [Int32.mul_comm r]
    cases q2 : rOk b r with
    | false =>
      rw [q2, if_neg (by decide)] at e
      refine JB_t g (k := 2) (by decide) ?_ ⟨0, zI (tk h 2), ?_, tk_m, tk_z⟩
      · unfold F_L_rent; rw [gd_d (k0 s), e, ob4_s]; rfl
      · rw [m_rent s i, q, q2]
        rfl
    | true =>
      rw [q2, if_pos rfl] at e
      refine JB_r g (r := renS (zI h 60) (nI j).toNatClampNeg b r) ?_ ⟨zI (t0 h), ?_, t0_m, t0_z⟩
      · unfold F_L_rent; rw [gd_d (k0 s), e, ob4_s]; exact put_out s _
      · refine (m_rent (h := setL h 72 0 (renS (zI h 60) (nI j).toNatClampNeg b r).toInt64) s i (nI j) b r).trans ?_
        show (if isIn (nI j) (nG (zI h 60)) then _ else _) = _
        rw [q, q2]
        rfl
-- one number written on both sides
theorem GS_one (g : GS h) {a k w : Nat} {v : Int32} (m : Mp a k w) (h1 : w ≠ 1) (h4 : w ≠ 4) (i2 : Inv (va_up (zI h 60) w v)) : GS (wI h (up2 (up2 (up2 (zI h) (3 + a) k v) 59 0 0) 60 w v)) := by
  obtain ⟨s, i, c, t, -⟩ := id g
  obtain ⟨ha, hw, hq, hx, -⟩ := mp_bd m
  have e60 : (up2 (up2 (up2 (zI h) (3 + a) k v) 59 0 0) 60 w v) 60 = va_up (zI h 60) w v := by
    have : (up2 (up2 (zI h) (3 + a) k v) 59 0 0) 60 = zI h 60 := (up2_a _ _ _ _ _ (by omega)).trans (up2_a _ _ _ _ _ (by omega))
    show va_up ((up2 (up2 (zI h) (3 + a) k v) 59 0 0)) 60 (va_up ((up2 (up2 (zI h) (3 + a) k v) 59 0 0) 60) w v) 60 = _
    rw [va_e, this]
  have lo : ∀ b, b < 59 → b ≠ 3 + a → (up2 (up2 (up2 (zI h) (3 + a) k v) 59 0 0) 60 w v) b = zI h b := fun b hb hn => ((up2_a _ _ _ _ _ (by omega)).trans (up2_a _ _ _ _ _ (by omega))).trans (up2_a _ _ _ _ _ hn)
  have hi : ∀ b, 60 < b → (up2 (up2 (up2 (zI h) (3 + a) k v) 59 0 0) 60 w v) b = zI h b := fun b hb => ((up2_a _ _ _ _ _ (by omega)).trans (up2_a _ _ _ _ _ (by omega))).trans (up2_a _ _ _ _ _ (by omega))
  have at59 : ∀ j, j ≠ 0 → (up2 (up2 (up2 (zI h) (3 + a) k v) 59 0 0) 60 w v) 59 j = zI h 59 j := fun j hj => by
    rw [up2_a _ _ _ _ _ (by omega), up2_k _ _ _ _ _ hj, up2_a _ _ _ _ _ (by omega)]
  refine GS_c g (by rw [e60]; exact i2) ?_ ?_ ?_
  · rw [e60]
    refine HR_ch c i (fun a2 k2 w2 m2 => ?_) (va_n _ _ _ _ (fun e => h1 e.symm)) (va_n _ _ _ _ (fun e => h4 e.symm)) (fun j h2 h3 => va_n _ _ _ _ (by omega)) (fun j h2 h3 => va_n _ _ _ _ (by omega)) (fun b h2 h3 => lo _ (by omega) (by omega)) (fun b h2 => ⟨lo _ (by omega) (by omega), lo _ (by omega) (by omega)⟩)
    have ha2 := (mp_bd m2).1
    by_cases ea : a2 = a
    · subst ea
      by_cases ek : k2 = k
      · subst ek
        have : w2 = w := (mp_fun m m2).mp ⟨rfl, rfl⟩
        subst this
        rw [up2_a _ _ _ _ _ (by omega), up2_a _ _ _ _ _ (by omega), up2_e, va_e]
      · have : w2 ≠ w := fun q => ek ((mp_fun m m2).mpr q).2
        rw [up2_a _ _ _ _ _ (by omega), up2_a _ _ _ _ _ (by omega), up2_k _ _ _ _ _ ek, va_n _ _ _ _ this]
        exact HR_mp c _ _ _ m2
    · have : w2 ≠ w := fun q => ea ((mp_fun m m2).mpr q).1
      rw [lo _ (by omega) (by omega), va_n _ _ _ _ this]
      exact HR_mp c _ _ _ m2
  · obtain ⟨t1, t2, t3, t4⟩ := t
    unfold TP
    rw [at59 _ (by decide), at59 _ (by decide), lo 1 (by omega) (by omega), lo 2 (by omega) (by omega), hi 63 (by omega)]
    exact ⟨t1, t2, t3, t4⟩
  · intro b j hb _ _
    rcases hb with rfl | hb | ⟨rfl, rfl⟩
    · rw [hi _ (by omega)]
    · rw [hi _ (by omega)]
    · exact at59 _ (by decide)
theorem j_seed (g : GS h) (v : Int32) : JA h (F_X11_seed 0 v) (F_X12_seed 59 v) := by
  obtain ⟨s, i, c, -⟩ := id g
  have i2 : Inv (va_up (zI h 60) 10 v) := Inv_10 i (fun k _ hk => va_n _ _ _ _ hk)
  refine ⟨zI h 60 10, setI h 3 15 v, wI h (up2 (up2 (up2 (zI h) (3 + 0) 15 v) 59 0 0) 60 10 v), ?_, ?_, k59 s, GS_one g (a := 0) (k := 15) (w := 10) (v := v) (by unfold Mp; decide) (by decide) (by decide) i2, Nat.le_refl _, Nat.le_refl _⟩
  · simp only [F_X11_seed, F_X11_seed_b0, k59 s, r59_1 s, k60 s, l60 s, k0 s, r0_1 s, k3 s, r3_1 s, r3_2 s, r3_3 s, r3_4 s, r3_6 s, r3_7 s, r3_8 s, r3_9 s, r3_16 s, k4 s, k5 s, k6 s, k7 s, k8 s, k9 s, l4 s, l5 s, l6 s, l7 s, l8 s, l9 s, k11 s, r11_1 s, r11_2 s, r11_3 s, k12 s, k13 s, k14 s, l12 s, l13 s, l14 s, k15 s, r0_0 s, k1 s, gd_t, ob_s, ob2_s, ob4_s, sm_l, sm_r, ac_s, decide_true, decide_false, eq_self, ne_eq, not_false_eq_true, not_true_eq_false, if_true, if_false, ite_true, ite_false, reduceIte, or_true, true_or, or_false, false_or, and_true, true_and, Bool.false_eq_true, reduceCtorEq, c.1.2.2.2.2.2.2.2.2.2.2]
  · have s' : Sh (setI h 3 15 v) := Sh_w s _
    simp (disch := omega) only [F_X12_seed, F_X12_seed_b0, t0_d, t0_k, t0_l, t0_r, t0_60, k59 s', r59_1 s', k60 s', l60 s', nl_10, ix_t, ncl, gd_t, ob_s, ob2_s, ob4_s, sm_l, sm_r, ac_s, decide_true, decide_false, eq_self, ne_eq, not_false_eq_true, not_true_eq_false, if_true, if_false, ite_true, ite_false, reduceIte, or_true, true_or, or_false, false_or, and_true, true_and, Bool.false_eq_true, reduceCtorEq]
    rw [show zI (setI h 3 15 v) 60 = zI h 60 from su_n (by decide)]
    rfl
theorem Inv_sit {f : Nat → Int32} (i : Inv f) {g r : Nat} (hg : g < nG f) (hr : r < nR f) : Inv (va_up f (44 + 2 * g) (nI r)) := by
  have r8 := iR8 i
  have g5 := iG5 i
  have t6 := iT6 i
  have b20 := iB20 i
  refine Inv_mk i (fun k hk => va_n _ _ _ _ (by omega)) (fun r2 hr2 => ?_) (fun g2 hg2 => ?_) (fun t ht => ?_) (fun b hb => ?_)
  · rw [va_n _ _ _ _ (by omega), va_n _ _ _ _ (by omega), va_n _ _ _ _ (by omega), va_n _ _ _ _ (by omega)]
    exact irm i r2 hr2
  · rw [va_n _ _ _ _ (by omega)]
    by_cases e : g2 = g
    · subst e
      rw [va_e]
      exact ⟨(ig2 i g2 hg2).1, r, hr, rfl⟩
    · rw [va_n _ _ _ _ (by omega)]
      exact ig2 i g2 hg2
  · rw [va_n _ _ _ _ (by omega), va_n _ _ _ _ (by omega), va_n _ _ _ _ (by omega)]
    exact it2 i t ht
  · rw [va_n _ _ _ _ (by omega), va_n _ _ _ _ (by omega), va_n _ _ _ _ (by omega)]
    exact ibk i b hb
theorem m_go (s : Sh h) (i : Inv (zI h 60)) (v w : Int32) : F_X12_go 59 v w h = if isIn v (nG (zI h 60)) && isIn w (nR (zI h 60)) then some (zI h 60 (44 + 2 * v.toNatClampNeg), setI (t0 h) 60 (44 + 2 * v.toNatClampNeg) w) else some (0, tk h 1) := by
  have g5 := iG5 i
  have r8 := iR8 i
  simp only [F_X12_go, F_X12_go_b0, F_X12_go_b22, F_X12_go_b27, m_noGuest (t0_s s) (t0_i i), m_noRoom (t0_s s) (t0_i i), m_thr1 (t0_s s), m_thr0 (t0_s s), k59 s, r59_1 s, k60 s, l60 s, k0 s, r0_1 s, k3 s, r3_1 s, r3_2 s, r3_3 s, r3_4 s, r3_6 s, r3_7 s, r3_8 s, r3_9 s, r3_16 s, k4 s, k5 s, k6 s, k7 s, k8 s, k9 s, l4 s, l5 s, l6 s, l7 s, l8 s, l9 s, k11 s, r11_1 s, r11_2 s, r11_3 s, k12 s, k13 s, k14 s, l12 s, l13 s, l14 s, k15 s, r0_0 s, k1 s, t0_d, tk_d, t0_k, t0_l, t0_r, t0_60, tk_k, tk_l, tk_r, tk_60, hS_k, hS_l, hS_r, hS_60, one0, b2_t, b2_f, Bool.not_true, Bool.not_false, Bool.false_eq_true, gd_t, ob_s, ob2_s, ob4_s, sm_l, sm_r, ac_s, decide_true, decide_false, eq_self, ne_eq, not_false_eq_true, not_true_eq_false, if_true, if_false, ite_true, ite_false, reduceIte, or_true, true_or, or_false, false_or, and_true, true_and, Bool.false_eq_true, reduceCtorEq]
  cases q : isIn v (nG (zI h 60)) with
  | false => simp only [Bool.false_and, t0_d, tk_d, t0_k, t0_l, t0_r, t0_60, tk_k, tk_l, tk_r, tk_60, hS_k, hS_l, hS_r, hS_60, one0, b2_t, b2_f, Bool.not_true, Bool.not_false, Bool.false_eq_true, gd_t, ob_s, ob2_s, ob4_s, sm_l, sm_r, ac_s, decide_true, decide_false, eq_self, ne_eq, not_false_eq_true, not_true_eq_false, if_true, if_false, ite_true, ite_false, reduceIte, or_true, true_or, or_false, false_or, and_true, true_and, Bool.false_eq_true, reduceCtorEq]
  | true =>
    cases q2 : isIn w (nR (zI h 60)) with
    | false => simp only [Bool.and_false, t0_d, tk_d, t0_k, t0_l, t0_r, t0_60, tk_k, tk_l, tk_r, tk_60, hS_k, hS_l, hS_r, hS_60, one0, b2_t, b2_f, Bool.not_true, Bool.not_false, Bool.false_eq_true, gd_t, ob_s, ob2_s, ob4_s, sm_l, sm_r, ac_s, decide_true, decide_false, eq_self, ne_eq, not_false_eq_true, not_true_eq_false, if_true, if_false, ite_true, ite_false, reduceIte, or_true, true_or, or_false, false_or, and_true, true_and, Bool.false_eq_true, reduceCtorEq]
    | true =>
      obtain ⟨j, hj, rfl⟩ := isIn_of (by omega) q
      simp (disch := omega) only [Bool.and_true, m_roomOf (t0_s s), nl_43, nl_2, nl_1, nmul, nadd, ix_t, ncl, k59 s, r59_1 s, k60 s, l60 s, k0 s, r0_1 s, k3 s, r3_1 s, r3_2 s, r3_3 s, r3_4 s, r3_6 s, r3_7 s, r3_8 s, r3_9 s, r3_16 s, k4 s, k5 s, k6 s, k7 s, k8 s, k9 s, l4 s, l5 s, l6 s, l7 s, l8 s, l9 s, k11 s, r11_1 s, r11_2 s, r11_3 s, k12 s, k13 s, k14 s, l12 s, l13 s, l14 s, k15 s, r0_0 s, k1 s, t0_d, tk_d, t0_k, t0_l, t0_r, t0_60, tk_k, tk_l, tk_r, tk_60, hS_k, hS_l, hS_r, hS_60, one0, b2_t, b2_f, Bool.not_true, Bool.not_false, Bool.false_eq_true, gd_t, ob_s, ob2_s, ob4_s, sm_l, sm_r, ac_s, decide_true, decide_false, eq_self, ne_eq, not_false_eq_true, not_true_eq_false, if_true, if_false, ite_true, ite_false, reduceIte, or_true, true_or, or_false, false_or, and_true, true_and, Bool.false_eq_true, reduceCtorEq]
      rw [show 43 + 2 * j + 1 = 44 + 2 * j by omega]
theorem j_go (g : GS h) (v w : Int32) : JB h (F_L_go 0 v w 72) (F_X12_go 59 v w) := by
  obtain ⟨s, i, c, -⟩ := id g
  have g5 := iG5 i
  have r8 := iR8 i
  cases q : (isIn v (nG (zI h 60)) && isIn w (nR (zI h 60))) with
  | false =>
    have e : F_X11_go 0 v w h = some (.inr 2, h, 1, 6) := by
      simp only [F_X11_go, F_X11_go_b0, F_X11_go_b22, x_hasGuest s i c, x_hasRoom s i c, k59 s, r59_1 s, k60 s, l60 s, k0 s, r0_1 s, k3 s, r3_1 s, r3_2 s, r3_3 s, r3_4 s, r3_6 s, r3_7 s, r3_8 s, r3_9 s, r3_16 s, k4 s, k5 s, k6 s, k7 s, k8 s, k9 s, l4 s, l5 s, l6 s, l7 s, l8 s, l9 s, k11 s, r11_1 s, r11_2 s, r11_3 s, k12 s, k13 s, k14 s, l12 s, l13 s, l14 s, k15 s, r0_0 s, k1 s, gd_t, ob_s, ob2_s, ob4_s, sm_l, sm_r, ac_s, decide_true, decide_false, eq_self, ne_eq, not_false_eq_true, not_true_eq_false, if_true, if_false, ite_true, ite_false, reduceIte, or_true, true_or, or_false, false_or, and_true, true_and, Bool.false_eq_true, reduceCtorEq]
      cases q1 : isIn v (nG (zI h 60)) with
      | false => simp only [t0_d, tk_d, t0_k, t0_l, t0_r, t0_60, tk_k, tk_l, tk_r, tk_60, hS_k, hS_l, hS_r, hS_60, one0, b2_t, b2_f, Bool.not_true, Bool.not_false, Bool.false_eq_true, gd_t, ob_s, ob2_s, ob4_s, sm_l, sm_r, ac_s, decide_true, decide_false, eq_self, ne_eq, not_false_eq_true, not_true_eq_false, if_true, if_false, ite_true, ite_false, reduceIte, or_true, true_or, or_false, false_or, and_true, true_and, Bool.false_eq_true, reduceCtorEq]
      | true =>
        rw [q1, Bool.true_and] at q
        simp only [q, t0_d, tk_d, t0_k, t0_l, t0_r, t0_60, tk_k, tk_l, tk_r, tk_60, hS_k, hS_l, hS_r, hS_60, one0, b2_t, b2_f, Bool.not_true, Bool.not_false, Bool.false_eq_true, gd_t, ob_s, ob2_s, ob4_s, sm_l, sm_r, ac_s, decide_true, decide_false, eq_self, ne_eq, not_false_eq_true, not_true_eq_false, if_true, if_false, ite_true, ite_false, reduceIte, or_true, true_or, or_false, false_or, and_true, true_and, Bool.false_eq_true, reduceCtorEq]
    refine JB_t g (k := 1) (by decide) ?_ ⟨0, zI (tk h 1), ?_, tk_m, tk_z⟩
    · unfold F_L_go; rw [gd_d (k0 s), e, ob4_s]; rfl
    · rw [m_go s i, q]
      rfl
  | true =>
    have q0 := q
    rw [Bool.and_eq_true] at q
    obtain ⟨j, hj, rfl⟩ := isIn_of (by omega) q.1
    obtain ⟨r, hr, rfl⟩ := isIn_of (by omega) q.2
    have e : F_X11_go 0 (nI j) (nI r) h = some (.inl (zI h 60 (44 + 2 * j)), setI h 9 j (nI r), 0, 0) := by
      simp (disch := omega) only [F_X11_go, F_X11_go_b0, F_X11_go_b22, x_hasGuest s i c, x_hasRoom s i c, q.1, q.2, ix_t, ncl, t0_d, tk_d, t0_k, t0_l, t0_r, t0_60, tk_k, tk_l, tk_r, tk_60, hS_k, hS_l, hS_r, hS_60, one0, b2_t, b2_f, Bool.not_true, Bool.not_false, Bool.false_eq_true, k59 s, r59_1 s, k60 s, l60 s, k0 s, r0_1 s, k3 s, r3_1 s, r3_2 s, r3_3 s, r3_4 s, r3_6 s, r3_7 s, r3_8 s, r3_9 s, r3_16 s, k4 s, k5 s, k6 s, k7 s, k8 s, k9 s, l4 s, l5 s, l6 s, l7 s, l8 s, l9 s, k11 s, r11_1 s, r11_2 s, r11_3 s, k12 s, k13 s, k14 s, l12 s, l13 s, l14 s, k15 s, r0_0 s, k1 s, gd_t, ob_s, ob2_s, ob4_s, sm_l, sm_r, ac_s, decide_true, decide_false, eq_self, ne_eq, not_false_eq_true, not_true_eq_false, if_true, if_false, ite_true, ite_false, reduceIte, or_true, true_or, or_false, false_or, and_true, true_and, Bool.false_eq_true, reduceCtorEq]
      rw [show zI h 9 j = zI h 60 (44 + 2 * j) from (c.2.2.1 j (by omega)).2]
    refine JB_w g (r := zI h 60 (44 + 2 * j)) (J1 := up2 (zI h) 9 j (nI r)) (J2 := up2 (up2 (up2 (zI h) (3 + 6) j (nI r)) 59 0 0) 60 (44 + 2 * j) (nI r)) ?_ ?_ ?_ (GS_one g (a := 6) (k := j) (w := 44 + 2 * j) (mp_G (by omega) (by omega) (by omega) (by omega)) (by omega) (by omega) (Inv_sit i hj hr))
    · unfold F_L_go; rw [gd_d (k0 s), e, ob4_s]; exact put_out (Sh_w s _) _
    · have s' : Sh (setL (wI h (up2 (zI h) 9 j (nI r))) 72 0 (zI h 60 (44 + 2 * j)).toInt64) := s
      have e60 : zI (setL (wI h (up2 (zI h) 9 j (nI r))) 72 0 (zI h 60 (44 + 2 * j)).toInt64) 60 = zI h 60 := up2_a (zI h) 9 j 60 (nI r) (by decide)
      rw [m_go s' (by rw [e60]; exact i), e60, q0, nI_clamp (by omega)]
      rfl
    · rw [up2_a _ _ _ _ _ (by decide), up2_e]
end CALLS2
