/-! CALLS: trunk, go, moment, level, seating, count, seed, rent, fault, end, room -/
section CALLS
variable {h : Hp}
theorem m_trunk (s : Sh h) (i : Inv (zI h 60)) (v w : Int32) : F_X12_trunk 59 v w h = if isIn v (nT (zI h 60)) then (if isIn w 3 then some (zI h 60 (53 + 3 * v.toNatClampNeg + w.toNatClampNeg), t0 h) else some (0, tk h 2)) else some (0, tk h 1) := by
  have t6 := iT6 i
  have e2 : ∀ H : Hp, F_X12_in w 0 2 H = some (b2 (isIn w 3)) := fun H => m_inN (n := 3) (by omega) rfl
  simp only [F_X12_trunk, F_X12_trunk_b0, F_X12_trunk_b33, F_X12_trunk_b40, F_X12_trunk_b50, e2, m_noTrunk (t0_s s) (t0_i i), m_throwsIf (t0_s s), k59 s, r59_1 s, k60 s, l60 s, k0 s, r0_1 s, k3 s, r3_1 s, r3_2 s, r3_3 s, r3_4 s, r3_6 s, r3_7 s, r3_8 s, r3_9 s, r3_16 s, k4 s, k5 s, k6 s, k7 s, k8 s, k9 s, l4 s, l5 s, l6 s, l7 s, l8 s, l9 s, k11 s, r11_1 s, r11_2 s, r11_3 s, k12 s, k13 s, k14 s, l12 s, l13 s, l14 s, k15 s, r0_0 s, k1 s, t0_d, tk_d, t0_k, t0_l, t0_r, t0_60, tk_k, tk_l, tk_r, tk_60, hS_k, hS_l, hS_r, hS_60, one0, b2_t, b2_f, Bool.not_true, Bool.not_false, Bool.false_eq_true, gd_t, ob_s, ob2_s, ob4_s, sm_l, sm_r, ac_s, decide_true, decide_false, eq_self, ne_eq, not_false_eq_true, not_true_eq_false, if_true, if_false, ite_true, ite_false, reduceIte, or_true, true_or, or_false, false_or, and_true, true_and, Bool.false_eq_true, reduceCtorEq]
  cases q : isIn v (nT (zI h 60)) with
  | false => simp only [t0_d, tk_d, t0_k, t0_l, t0_r, t0_60, tk_k, tk_l, tk_r, tk_60, hS_k, hS_l, hS_r, hS_60, one0, b2_t, b2_f, Bool.not_true, Bool.not_false, Bool.false_eq_true, gd_t, ob_s, ob2_s, ob4_s, sm_l, sm_r, ac_s, decide_true, decide_false, eq_self, ne_eq, not_false_eq_true, not_true_eq_false, if_true, if_false, ite_true, ite_false, reduceIte, or_true, true_or, or_false, false_or, and_true, true_and, Bool.false_eq_true, reduceCtorEq]
  | true =>
    obtain ⟨j, hj, rfl⟩ := isIn_of (by omega) q
    cases q2 : isIn w 3 with
    | false => simp only [m_thr1 (t0_s s), k59 s, r59_1 s, k60 s, l60 s, k0 s, r0_1 s, k3 s, r3_1 s, r3_2 s, r3_3 s, r3_4 s, r3_6 s, r3_7 s, r3_8 s, r3_9 s, r3_16 s, k4 s, k5 s, k6 s, k7 s, k8 s, k9 s, l4 s, l5 s, l6 s, l7 s, l8 s, l9 s, k11 s, r11_1 s, r11_2 s, r11_3 s, k12 s, k13 s, k14 s, l12 s, l13 s, l14 s, k15 s, r0_0 s, k1 s, t0_d, tk_d, t0_k, t0_l, t0_r, t0_60, tk_k, tk_l, tk_r, tk_60, hS_k, hS_l, hS_r, hS_60, one0, b2_t, b2_f, Bool.not_true, Bool.not_false, Bool.false_eq_true, gd_t, ob_s, ob2_s, ob4_s, sm_l, sm_r, ac_s, decide_true, decide_false, eq_self, ne_eq, not_false_eq_true, not_true_eq_false, if_true, if_false, ite_true, ite_false, reduceIte, or_true, true_or, or_false, false_or, and_true, true_and, Bool.false_eq_true, reduceCtorEq]
    | true =>
      obtain ⟨k, hk, rfl⟩ := isIn_of (by omega) q2
      simp (disch := omega) only [m_thr0 (t0_s s), m_ofTrunk (t0_s s), ncl, k59 s, r59_1 s, k60 s, l60 s, k0 s, r0_1 s, k3 s, r3_1 s, r3_2 s, r3_3 s, r3_4 s, r3_6 s, r3_7 s, r3_8 s, r3_9 s, r3_16 s, k4 s, k5 s, k6 s, k7 s, k8 s, k9 s, l4 s, l5 s, l6 s, l7 s, l8 s, l9 s, k11 s, r11_1 s, r11_2 s, r11_3 s, k12 s, k13 s, k14 s, l12 s, l13 s, l14 s, k15 s, r0_0 s, k1 s, t0_d, tk_d, t0_k, t0_l, t0_r, t0_60, tk_k, tk_l, tk_r, tk_60, hS_k, hS_l, hS_r, hS_60, one0, b2_t, b2_f, Bool.not_true, Bool.not_false, Bool.false_eq_true, gd_t, ob_s, ob2_s, ob4_s, sm_l, sm_r, ac_s, decide_true, decide_false, eq_self, ne_eq, not_false_eq_true, not_true_eq_false, if_true, if_false, ite_true, ite_false, reduceIte, or_true, true_or, or_false, false_or, and_true, true_and, Bool.false_eq_true, reduceCtorEq]
theorem ne_isIn {v : Int32} {n j : Nat} (q : isIn v n = false) (hj : j < n) (hn : n < 2147483648) : (v = nI j) = False := eq_false (fun e => notIn q hn e hj)
theorem j_trunk (g : GS h) (v w : Int32) : JB h (F_L_trunk 0 v w 72) (F_X12_trunk 59 v w) := by
  obtain ⟨s, i, c, -⟩ := id g
  have t6 := iT6 i
  have r8 := iR8 i
  have tv := tv11 s i c
  cases q : isIn v (nT (zI h 60)) with
  | false =>
    have e : F_X11_trunk 0 v w h = some (.inr 2, h, 1, 6) := by
      simp only [F_X11_trunk, F_X11_trunk_b0, x_has i tv, q, k59 s, r59_1 s, k60 s, l60 s, k0 s, r0_1 s, k3 s, r3_1 s, r3_2 s, r3_3 s, r3_4 s, r3_6 s, r3_7 s, r3_8 s, r3_9 s, r3_16 s, k4 s, k5 s, k6 s, k7 s, k8 s, k9 s, l4 s, l5 s, l6 s, l7 s, l8 s, l9 s, k11 s, r11_1 s, r11_2 s, r11_3 s, k12 s, k13 s, k14 s, l12 s, l13 s, l14 s, k15 s, r0_0 s, k1 s, t0_d, tk_d, t0_k, t0_l, t0_r, t0_60, tk_k, tk_l, tk_r, tk_60, hS_k, hS_l, hS_r, hS_60, one0, b2_t, b2_f, Bool.not_true, Bool.not_false, Bool.false_eq_true, gd_t, ob_s, ob2_s, ob4_s, sm_l, sm_r, ac_s, decide_true, decide_false, eq_self, ne_eq, not_false_eq_true, not_true_eq_false, if_true, if_false, ite_true, ite_false, reduceIte, or_true, true_or, or_false, false_or, and_true, true_and, Bool.false_eq_true, reduceCtorEq]
    refine JB_t g (k := 1) (by decide) ?_ ⟨0, zI (tk h 1), ?_, tk_m, tk_z⟩
    · unfold F_L_trunk; rw [gd_d (k0 s), e, ob4_s]; rfl
    · rw [m_trunk s i, q]
      rfl
  | true =>
    cases q2 : isIn w 3 with
    | false =>
      have e : F_X11_trunk 0 v w h = some (.inr 3, h, 1, 6) := by
        have n0 : (w = 0) = False := ne_isIn (j := 0) q2 (by omega) (by omega)
        have n1 : (w = 1) = False := ne_isIn (j := 1) q2 (by omega) (by omega)
        have n2 : (w = 2) = False := ne_isIn (j := 2) q2 (by omega) (by omega)
        simp only [F_X11_trunk, F_X11_trunk_b0, x_has i tv, q, n0, n1, n2, k59 s, r59_1 s, k60 s, l60 s, k0 s, r0_1 s, k3 s, r3_1 s, r3_2 s, r3_3 s, r3_4 s, r3_6 s, r3_7 s, r3_8 s, r3_9 s, r3_16 s, k4 s, k5 s, k6 s, k7 s, k8 s, k9 s, l4 s, l5 s, l6 s, l7 s, l8 s, l9 s, k11 s, r11_1 s, r11_2 s, r11_3 s, k12 s, k13 s, k14 s, l12 s, l13 s, l14 s, k15 s, r0_0 s, k1 s, t0_d, tk_d, t0_k, t0_l, t0_r, t0_60, tk_k, tk_l, tk_r, tk_60, hS_k, hS_l, hS_r, hS_60, one0, b2_t, b2_f, Bool.not_true, Bool.not_false, Bool.false_eq_true, gd_t, ob_s, ob2_s, ob4_s, sm_l, sm_r, ac_s, decide_true, decide_false, eq_self, ne_eq, not_false_eq_true, not_true_eq_false, if_true, if_false, ite_true, ite_false, reduceIte, or_true, true_or, or_false, false_or, and_true, true_and, Bool.false_eq_true, reduceCtorEq]
      refine JB_t g (k := 2) (by decide) ?_ ⟨0, zI (tk h 2), ?_, tk_m, tk_z⟩
      · unfold F_L_trunk; rw [gd_d (k0 s), e, ob4_s]; rfl
      · rw [m_trunk s i, q, q2]
        rfl
    | true =>
      obtain ⟨j, hj, rfl⟩ := isIn_of (by omega) q
      have e : F_X11_trunk 0 (nI j) w h = some (.inl (zI h 60 (53 + 3 * (nI j).toNatClampNeg + w.toNatClampNeg)), h, 0, 0) := by
        obtain ⟨c1, c2, c3⟩ := c.2.2.2.1 j (by omega)
        have c2' : zI h 13 j = zI h 60 (53 + 3 * j + 1) := c2.trans (by rw [show 53 + 3 * j + 1 = 54 + 3 * j by omega])
        have c3' : zI h 14 j = zI h 60 (53 + 3 * j + 2) := c3.trans (by rw [show 53 + 3 * j + 2 = 55 + 3 * j by omega])
        have z1 : ((1 : Int32) = 0) = False := eq_false (by decide)
        have z2 : ((2 : Int32) = 0) = False := eq_false (by decide)
        have z3 : ((2 : Int32) = 1) = False := eq_false (by decide)
        rcases in3 q2 with rfl | rfl | rfl
        · simp (disch := omega) only [F_X11_trunk, F_X11_trunk_b0, x_has i tv, q, ix_t, ncl, k59 s, r59_1 s, k60 s, l60 s, k0 s, r0_1 s, k3 s, r3_1 s, r3_2 s, r3_3 s, r3_4 s, r3_6 s, r3_7 s, r3_8 s, r3_9 s, r3_16 s, k4 s, k5 s, k6 s, k7 s, k8 s, k9 s, l4 s, l5 s, l6 s, l7 s, l8 s, l9 s, k11 s, r11_1 s, r11_2 s, r11_3 s, k12 s, k13 s, k14 s, l12 s, l13 s, l14 s, k15 s, r0_0 s, k1 s, t0_d, tk_d, t0_k, t0_l, t0_r, t0_60, tk_k, tk_l, tk_r, tk_60, hS_k, hS_l, hS_r, hS_60, one0, b2_t, b2_f, Bool.not_true, Bool.not_false, Bool.false_eq_true, gd_t, ob_s, ob2_s, ob4_s, sm_l, sm_r, ac_s, decide_true, decide_false, eq_self, ne_eq, not_false_eq_true, not_true_eq_false, if_true, if_false, ite_true, ite_false, reduceIte, or_true, true_or, or_false, false_or, and_true, true_and, Bool.false_eq_true, reduceCtorEq]
          exact congrArg some (congrArg (fun z => (Sum.inl z, h, 0, 0)) c1)
        · simp (disch := omega) only [F_X11_trunk, F_X11_trunk_b0, x_has i tv, q, ix_t, ncl, z1, k59 s, r59_1 s, k60 s, l60 s, k0 s, r0_1 s, k3 s, r3_1 s, r3_2 s, r3_3 s, r3_4 s, r3_6 s, r3_7 s, r3_8 s, r3_9 s, r3_16 s, k4 s, k5 s, k6 s, k7 s, k8 s, k9 s, l4 s, l5 s, l6 s, l7 s, l8 s, l9 s, k11 s, r11_1 s, r11_2 s, r11_3 s, k12 s, k13 s, k14 s, l12 s, l13 s, l14 s, k15 s, r0_0 s, k1 s, t0_d, tk_d, t0_k, t0_l, t0_r, t0_60, tk_k, tk_l, tk_r, tk_60, hS_k, hS_l, hS_r, hS_60, one0, b2_t, b2_f, Bool.not_true, Bool.not_false, Bool.false_eq_true, gd_t, ob_s, ob2_s, ob4_s, sm_l, sm_r, ac_s, decide_true, decide_false, eq_self, ne_eq, not_false_eq_true, not_true_eq_false, if_true, if_false, ite_true, ite_false, reduceIte, or_true, true_or, or_false, false_or, and_true, true_and, Bool.false_eq_true, reduceCtorEq]
          exact congrArg some (congrArg (fun z => (Sum.inl z, h, 0, 0)) c2')
        · simp (disch := omega) only [F_X11_trunk, F_X11_trunk_b0, x_has i tv, q, ix_t, ncl, z2, z3, k59 s, r59_1 s, k60 s, l60 s, k0 s, r0_1 s, k3 s, r3_1 s, r3_2 s, r3_3 s, r3_4 s, r3_6 s, r3_7 s, r3_8 s, r3_9 s, r3_16 s, k4 s, k5 s, k6 s, k7 s, k8 s, k9 s, l4 s, l5 s, l6 s, l7 s, l8 s, l9 s, k11 s, r11_1 s, r11_2 s, r11_3 s, k12 s, k13 s, k14 s, l12 s, l13 s, l14 s, k15 s, r0_0 s, k1 s, t0_d, tk_d, t0_k, t0_l, t0_r, t0_60, tk_k, tk_l, tk_r, tk_60, hS_k, hS_l, hS_r, hS_60, one0, b2_t, b2_f, Bool.not_true, Bool.not_false, Bool.false_eq_true, gd_t, ob_s, ob2_s, ob4_s, sm_l, sm_r, ac_s, decide_true, decide_false, eq_self, ne_eq, not_false_eq_true, not_true_eq_false, if_true, if_false, ite_true, ite_false, reduceIte, or_true, true_or, or_false, false_or, and_true, true_and, Bool.false_eq_true, reduceCtorEq]
          exact congrArg some (congrArg (fun z => (Sum.inl z, h, 0, 0)) c3')
      refine JB_r g (r := zI h 60 (53 + 3 * (nI j).toNatClampNeg + w.toNatClampNeg)) ?_ ⟨zI (t0 h), ?_, t0_m, t0_z⟩
      · unfold F_L_trunk; rw [gd_d (k0 s), e, ob4_s]; exact put_out s _
      · refine (m_trunk (h := setL h 72 0 (zI h 60 (53 + 3 * (nI j).toNatClampNeg + w.toNatClampNeg)).toInt64) s i (nI j) w).trans ?_
        show (if isIn (nI j) (nT (zI h 60)) then _ else _) = _
        rw [q, q2]
        rfl
-- level, seating
theorem x_level {f : Nat → Int32} (s : Sh h) (i : Inv f) (c : HR (zI h) 3 f) : F_X11_level 0 h = some (b2 (levS f (netS f 0 (sit f)) (netS f 1 (sit f)) (tin f))) := by
  simp only [F_X11_level, F_X11_level_b0, x_net s i c (pl4 s c), x_net s i c (pl5 s c), x_isLevelAt s i c (tv11 s i c), b2_g, k59 s, r59_1 s, k60 s, l60 s, k0 s, r0_1 s, k3 s, r3_1 s, r3_2 s, r3_3 s, r3_4 s, r3_6 s, r3_7 s, r3_8 s, r3_9 s, r3_16 s, k4 s, k5 s, k6 s, k7 s, k8 s, k9 s, l4 s, l5 s, l6 s, l7 s, l8 s, l9 s, k11 s, r11_1 s, r11_2 s, r11_3 s, k12 s, k13 s, k14 s, l12 s, l13 s, l14 s, k15 s, r0_0 s, k1 s, gd_t, ob_s, ob2_s, ob4_s, sm_l, sm_r, ac_s, decide_true, decide_false, eq_self, ne_eq, not_false_eq_true, not_true_eq_false, if_true, if_false, ite_true, ite_false, reduceIte, or_true, true_or, or_false, false_or, and_true, true_and, Bool.false_eq_true, reduceCtorEq]
theorem j_level (g : GS h) : JR h (F_X11_level 0) (F_X12_level 59) := by
  obtain ⟨s, i, c, -⟩ := id g
  refine JR_m g (x_level s i c) (J := zI (hT h)) ?_ hT_m
  simp only [F_X12_level, F_X12_level_b0, k59 s, r59_1 s, k60 s, l60 s, k0 s, r0_1 s, k3 s, r3_1 s, r3_2 s, r3_3 s, r3_4 s, r3_6 s, r3_7 s, r3_8 s, r3_9 s, r3_16 s, k4 s, k5 s, k6 s, k7 s, k8 s, k9 s, l4 s, l5 s, l6 s, l7 s, l8 s, l9 s, k11 s, r11_1 s, r11_2 s, r11_3 s, k12 s, k13 s, k14 s, l12 s, l13 s, l14 s, k15 s, r0_0 s, k1 s, t0_d, tk_d, t0_k, t0_l, t0_r, t0_60, tk_k, tk_l, tk_r, tk_60, hS_k, hS_l, hS_r, hS_60, one0, b2_t, b2_f, Bool.not_true, Bool.not_false, Bool.false_eq_true, gd_t, ob_s, ob2_s, ob4_s, sm_l, sm_r, ac_s, decide_true, decide_false, eq_self, ne_eq, not_false_eq_true, not_true_eq_false, if_true, if_false, ite_true, ite_false, reduceIte, or_true, true_or, or_false, false_or, and_true, true_and, Bool.false_eq_true, reduceCtorEq, m_sitsT s i, m_isLevel (hT_sh s) (hT_i i) (hT_s' i), b2_g, hT_60, k59 (hT_sh s)]
  rfl
theorem j_seating (g : GS h) : JR h (F_X11_seating 0) (F_X12_seating 59) := by
  obtain ⟨s, i, c, -⟩ := id g
  refine JR_m g (r := nI (numS (sit (zI h 60)) (nG (zI h 60)))) (J := zI (hT h)) ?_ ?_ hT_m
  · simp only [F_X11_seating, F_X11_seating_b0, x_asNumber s i c (k9 s) (l9 s) (seat9 i c), k59 s, r59_1 s, k60 s, l60 s, k0 s, r0_1 s, k3 s, r3_1 s, r3_2 s, r3_3 s, r3_4 s, r3_6 s, r3_7 s, r3_8 s, r3_9 s, r3_16 s, k4 s, k5 s, k6 s, k7 s, k8 s, k9 s, l4 s, l5 s, l6 s, l7 s, l8 s, l9 s, k11 s, r11_1 s, r11_2 s, r11_3 s, k12 s, k13 s, k14 s, l12 s, l13 s, l14 s, k15 s, r0_0 s, k1 s, gd_t, ob_s, ob2_s, ob4_s, sm_l, sm_r, ac_s, decide_true, decide_false, eq_self, ne_eq, not_false_eq_true, not_true_eq_false, if_true, if_false, ite_true, ite_false, reduceIte, or_true, true_or, or_false, false_or, and_true, true_and, Bool.false_eq_true, reduceCtorEq]
  · simp only [F_X12_seating, F_X12_seating_b0, k59 s, r59_1 s, k60 s, l60 s, k0 s, r0_1 s, k3 s, r3_1 s, r3_2 s, r3_3 s, r3_4 s, r3_6 s, r3_7 s, r3_8 s, r3_9 s, r3_16 s, k4 s, k5 s, k6 s, k7 s, k8 s, k9 s, l4 s, l5 s, l6 s, l7 s, l8 s, l9 s, k11 s, r11_1 s, r11_2 s, r11_3 s, k12 s, k13 s, k14 s, l12 s, l13 s, l14 s, k15 s, r0_0 s, k1 s, t0_d, tk_d, t0_k, t0_l, t0_r, t0_60, tk_k, tk_l, tk_r, tk_60, hS_k, hS_l, hS_r, hS_60, one0, b2_t, b2_f, Bool.not_true, Bool.not_false, Bool.false_eq_true, gd_t, ob_s, ob2_s, ob4_s, sm_l, sm_r, ac_s, decide_true, decide_false, eq_self, ne_eq, not_false_eq_true, not_true_eq_false, if_true, if_false, ite_true, ite_false, reduceIte, or_true, true_or, or_false, false_or, and_true, true_and, Bool.false_eq_true, reduceCtorEq, m_sitsT s i, m_told (hT_sh s) (hT_i i) (hT_s' i), hT_60, k59 (hT_sh s)]
    rfl
theorem j_fault (g : GS h) : JR h (F_X11_fault 0) (F_X12_fault 59) := by
  obtain ⟨s, i, c, t, -⟩ := id g
  refine JR_m g (r := zI h 59 11) (J := zI (t0 h)) ?_ ?_ t0_m
  · simp only [F_X11_fault, F_X11_fault_b0, k59 s, r59_1 s, k60 s, l60 s, k0 s, r0_1 s, k3 s, r3_1 s, r3_2 s, r3_3 s, r3_4 s, r3_6 s, r3_7 s, r3_8 s, r3_9 s, r3_16 s, k4 s, k5 s, k6 s, k7 s, k8 s, k9 s, l4 s, l5 s, l6 s, l7 s, l8 s, l9 s, k11 s, r11_1 s, r11_2 s, r11_3 s, k12 s, k13 s, k14 s, l12 s, l13 s, l14 s, k15 s, r0_0 s, k1 s, gd_t, ob_s, ob2_s, ob4_s, sm_l, sm_r, ac_s, decide_true, decide_false, eq_self, ne_eq, not_false_eq_true, not_true_eq_false, if_true, if_false, ite_true, ite_false, reduceIte, or_true, true_or, or_false, false_or, and_true, true_and, Bool.false_eq_true, reduceCtorEq]
    rw [t.2.2.1]
  · simp only [F_X12_fault, F_X12_fault_b0, k59 s, r59_1 s, k60 s, l60 s, k0 s, r0_1 s, k3 s, r3_1 s, r3_2 s, r3_3 s, r3_4 s, r3_6 s, r3_7 s, r3_8 s, r3_9 s, r3_16 s, k4 s, k5 s, k6 s, k7 s, k8 s, k9 s, l4 s, l5 s, l6 s, l7 s, l8 s, l9 s, k11 s, r11_1 s, r11_2 s, r11_3 s, k12 s, k13 s, k14 s, l12 s, l13 s, l14 s, k15 s, r0_0 s, k1 s, gd_t, ob_s, ob2_s, ob4_s, sm_l, sm_r, ac_s, decide_true, decide_false, eq_self, ne_eq, not_false_eq_true, not_true_eq_false, if_true, if_false, ite_true, ite_false, reduceIte, or_true, true_or, or_false, false_or, and_true, true_and, Bool.false_eq_true, reduceCtorEq, t0_d]
    have : zI (t0 h) 59 11 = zI h 59 11 := su_k (by decide)
    rw [this]
    rfl
end CALLS
