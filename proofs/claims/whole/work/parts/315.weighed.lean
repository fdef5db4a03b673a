/-! CALL: weighed -/
section WEIGHED
variable {h : Hp}
def lbT (f : Nat → Int32) (j t : Nat) : Int32 := if t = j then 0 else f (53 + 3 * t) * f (11 + 4 * tin f t)
def lbS (f : Nat → Int32) (j n : Nat) : Int32 := accN 0 (lbT f j) n
def reS (f : Nat → Int32) (j : Nat) (b : Int64) : Nat → Int64
  | 0 => b
  | n + 1 => reS f j b n - (if n = j then 0 else (f (53 + 3 * n)).toInt64 * (f (11 + 4 * tin f n)).toInt64)
theorem mul_bd {a x : Int32} (ha : bw a 0 300) (hx : bw x (-9) 9) : (a * x).toInt = a.toInt * x.toInt ∧ -2700 ≤ a.toInt * x.toInt ∧ a.toInt * x.toInt ≤ 2700 := by
  obtain ⟨a1, a2⟩ := ha
  obtain ⟨x1, x2⟩ := hx
  have h1 : a.toInt * x.toInt ≤ a.toInt * 9 := Int.mul_le_mul_of_nonneg_left x2 a1
  have h2 : a.toInt * -9 ≤ a.toInt * x.toInt := Int.mul_le_mul_of_nonneg_left x1 a1
  exact ⟨fb_mulI (by omega) (by omega), by omega, by omega⟩
theorem lbT_bd {f : Nat → Int32} (i : Inv f) (j : Nat) {t : Nat} (ht : t < nT f) : -2700 ≤ (lbT f j t).toInt ∧ (lbT f j t).toInt ≤ 2700 ∧ (if t = j then (0 : Int64) else (f (53 + 3 * t)).toInt64 * (f (11 + 4 * tin f t)).toInt64).toInt = (lbT f j t).toInt := by
  unfold lbT
  by_cases e : t = j
  · rw [if_pos e, if_pos e]
    exact ⟨by decide, by decide, rfl⟩
  · obtain ⟨t1, t2, t3, t4, t5⟩ := itr i t ht
    obtain ⟨m1, m2, m3⟩ := mul_bd t1 (irm i _ t5).1
    rw [if_neg e, if_neg e, m1, fb_mulL (by rw [Int32.toInt_toInt64, Int32.toInt_toInt64]; omega) (by rw [Int32.toInt_toInt64, Int32.toInt_toInt64]; omega), Int32.toInt_toInt64, Int32.toInt_toInt64]
    exact ⟨m2, m3, rfl⟩
theorem lbS_bd {f : Nat → Int32} (i : Inv f) (j : Nat) : ∀ n, n ≤ nT f → -2700 * n ≤ (lbS f j n).toInt ∧ (lbS f j n).toInt ≤ 2700 * n
  | 0, _ => by
    show -2700 * ((0 : Nat) : Int) ≤ (0 : Int32).toInt ∧ (0 : Int32).toInt ≤ 2700 * ((0 : Nat) : Int)
    decide
  | n + 1, hn => by
    have t6 := iT6 i
    obtain ⟨a, b⟩ := lbS_bd i j n (by omega)
    obtain ⟨c, d, -⟩ := lbT_bd i j (show n < nT f by omega)
    have e : (lbS f j (n + 1)).toInt = (lbS f j n).toInt + (lbT f j n).toInt := fb_addI (x := lbS f j n) (by omega) (by omega)
    rw [e]
    omega
theorem reS_eq {f : Nat → Int32} (i : Inv f) (j : Nat) (m v : Int32) : ∀ n, n ≤ nT f → (reS f j (m.toInt64 - v.toInt64) n).toInt = m.toInt - v.toInt - (lbS f j n).toInt
  | 0, _ => by
    show (m.toInt64 - v.toInt64).toInt = m.toInt - v.toInt - (0 : Int32).toInt
    rw [lg_i2l_sub]
    have : (0 : Int32).toInt = 0 := rfl
    omega
  | n + 1, hn => by
    have t6 := iT6 i
    have ih := reS_eq i j m v n (by omega)
    obtain ⟨a, b⟩ := lbS_bd i j n (by omega)
    obtain ⟨c, d, e⟩ := lbT_bd i j (show n < nT f by omega)
    have r1 := fb_rng m
    have r2 := fb_rng v
    have e2 : (lbS f j (n + 1)).toInt = (lbS f j n).toInt + (lbT f j n).toInt := fb_addI (x := lbS f j n) (by omega) (by omega)
    have e3 : (reS f j (m.toInt64 - v.toInt64) (n + 1)).toInt = (reS f j (m.toInt64 - v.toInt64) n).toInt - (lbT f j n).toInt := by
      rw [← e]
      exact fb_subL (by rw [e, ih]; omega) (by rw [e, ih]; omega)
    rw [e3, ih, e2]
    omega
theorem reS_cl {f : Nat → Int32} (i : Inv f) (j : Nat) (m v : Int32) : reS f j (m.toInt64 - v.toInt64) (nT f) = (m.toInt64 - v.toInt64) - (lbS f j (nT f)).toInt64 := by
  have t6 := iT6 i
  obtain ⟨a, b⟩ := lbS_bd i j (nT f) (Nat.le_refl _)
  have r1 := fb_rng m
  have r2 := fb_rng v
  rw [fa_eq64, reS_eq i j m v _ (Nat.le_refl _), fb_subL (by rw [lg_i2l_sub, Int32.toInt_toInt64]; omega) (by rw [lg_i2l_sub, Int32.toInt_toInt64]; omega), lg_i2l_sub, Int32.toInt_toInt64]
theorem x_leastBeside {f : Nat → Int32} (s : Sh h) (i : Inv f) (c : HR (zI h) 3 f) {j : Nat} (hj : j < nT f) : F_X8_leastBeside 11 (nI j) 4 h = some (lbS f j (nT f)) := by
  unfold F_X8_leastBeside F_X8_leastBeside_b0
  have hn := iT6 i
  have r8 := iR8 i
  refine ob_p (iter_run (fun k => (lbS f j k, nI k)) (nT f) _ (fun k hk => ?_) ?_ (FU_lt (by omega))) _
  · show F_X8_leastBeside_l5 11 (nI j) 4 (lbS f j k) (nI k) h = _
    obtain ⟨-, -, -, t4, t5⟩ := itr i k hk
    obtain ⟨c1, -, c3⟩ := c.2.2.2.1 k (by omega)
    have d1 : zI h 12 k = f (53 + 3 * k) := c1
    have d3 : zI h 14 k = nI (tin f k) := Eq.trans c3 t4
    have d4 : zI h 4 (tin f k) = f (11 + 4 * tin f k) := (c.2.1 _ (by omega)).1
    have d0 : zI h 11 0 = nI (nT f) := c.1.2.2.1.trans (iT i)
    show _ = some (Sum.inl (lbS f j k + lbT f j k, nI (k + 1)))
    unfold lbT
    by_cases e : k = j
    · subst e
      simp (disch := omega) only [F_X8_leastBeside_l5, F_X8_leastBeside_b40, d0, nle_f hk, nI_1, Int32.add_zero, k59 s, r59_1 s, k60 s, l60 s, k0 s, r0_1 s, k3 s, r3_1 s, r3_2 s, r3_3 s, r3_4 s, r3_6 s, r3_7 s, r3_8 s, r3_9 s, r3_16 s, k4 s, k5 s, k6 s, k7 s, k8 s, k9 s, l4 s, l5 s, l6 s, l7 s, l8 s, l9 s, k11 s, r11_1 s, r11_2 s, r11_3 s, k12 s, k13 s, k14 s, l12 s, l13 s, l14 s, k15 s, r0_0 s, k1 s, gd_t, ob_s, ob2_s, ob4_s, sm_l, sm_r, ac_s, decide_true, decide_false, eq_self, ne_eq, not_false_eq_true, not_true_eq_false, if_true, if_false, ite_true, ite_false, reduceIte, or_true, true_or, or_false, false_or, and_true, true_and, Bool.false_eq_true, reduceCtorEq]
    · have e' : (nI k = nI j) = False := neq_f e (by omega) (by omega)
      simp (disch := omega) only [F_X8_leastBeside_l5, F_X8_leastBeside_b40, d0, nle_f hk, nI_1, e, e', ix_t, ncl, d1, d3, d4, k59 s, r59_1 s, k60 s, l60 s, k0 s, r0_1 s, k3 s, r3_1 s, r3_2 s, r3_3 s, r3_4 s, r3_6 s, r3_7 s, r3_8 s, r3_9 s, r3_16 s, k4 s, k5 s, k6 s, k7 s, k8 s, k9 s, l4 s, l5 s, l6 s, l7 s, l8 s, l9 s, k11 s, r11_1 s, r11_2 s, r11_3 s, k12 s, k13 s, k14 s, l12 s, l13 s, l14 s, k15 s, r0_0 s, k1 s, gd_t, ob_s, ob2_s, ob4_s, sm_l, sm_r, ac_s, decide_true, decide_false, eq_self, ne_eq, not_false_eq_true, not_true_eq_false, if_true, if_false, ite_true, ite_false, reduceIte, or_true, true_or, or_false, false_or, and_true, true_and, Bool.false_eq_true, reduceCtorEq]
  · show F_X8_leastBeside_l5 11 (nI j) 4 (lbS f j (nT f)) (nI (nT f)) h = _
    have d0 : zI h 11 0 = nI (nT f) := c.1.2.2.1.trans (iT i)
    simp only [F_X8_leastBeside_l5, d0, Int32.le_refl, k59 s, r59_1 s, k60 s, l60 s, k0 s, r0_1 s, k3 s, r3_1 s, r3_2 s, r3_3 s, r3_4 s, r3_6 s, r3_7 s, r3_8 s, r3_9 s, r3_16 s, k4 s, k5 s, k6 s, k7 s, k8 s, k9 s, l4 s, l5 s, l6 s, l7 s, l8 s, l9 s, k11 s, r11_1 s, r11_2 s, r11_3 s, k12 s, k13 s, k14 s, l12 s, l13 s, l14 s, k15 s, r0_0 s, k1 s, gd_t, ob_s, ob2_s, ob4_s, sm_l, sm_r, ac_s, decide_true, decide_false, eq_self, ne_eq, not_false_eq_true, not_true_eq_false, if_true, if_false, ite_true, ite_false, reduceIte, or_true, true_or, or_false, false_or, and_true, true_and, Bool.false_eq_true, reduceCtorEq]
def wdS (f : Nat → Int32) (j : Nat) (m : Int32) : Int32 :=
  if f (11 + 4 * tin f j) = 0 then -1
  else if (reS f j (m.toInt64 - (netS f 0 (sit f)).toInt64) (nT f)) - (reS f j (m.toInt64 - (netS f 0 (sit f)).toInt64) (nT f)) / (f (11 + 4 * tin f j)).toInt64 * (f (11 + 4 * tin f j)).toInt64 = 0 then
    (if (reS f j (m.toInt64 - (netS f 0 (sit f)).toInt64) (nT f)) / (f (11 + 4 * tin f j)).toInt64 < (f (53 + 3 * j)).toInt64 then -1
     else if (f (54 + 3 * j)).toInt64 < (reS f j (m.toInt64 - (netS f 0 (sit f)).toInt64) (nT f)) / (f (11 + 4 * tin f j)).toInt64 then -1
     else ((reS f j (m.toInt64 - (netS f 0 (sit f)).toInt64) (nT f)) / (f (11 + 4 * tin f j)).toInt64).toInt32)
  else -1
theorem wide0 {x : Int32} (hx : ¬ x = 0) : (x.toInt64 = 0) = False := eq_false (fun q => hx (by
  rw [fa_eq]
  rw [fa_eq64, Int32.toInt_toInt64] at q
  exact q))
theorem x_weighed {f : Nat → Int32} (s : Sh h) (i : Inv f) (c : HR (zI h) 3 f) {j : Nat} (hj : j < nT f) (m : Int32) : F_X11_weighed 0 (nI j) m h = some (.inl (wdS f j m), h, 0, 0) := by
  have hn := iT6 i
  have r8 := iR8 i
  have tv := tv11 s i c
  obtain ⟨-, -, -, t4, t5⟩ := itr i j hj
  obtain ⟨-, -, c3⟩ := c.2.2.2.1 j (by omega)
  have d3 : zI h 14 j = nI (tin f j) := Eq.trans c3 t4
  have d4 : zI h 4 (tin f j) = f (11 + 4 * tin f j) := (c.2.1 _ (by omega)).1
  have hh : isIn (nI j) (nT f) = true := isIn_nI hj (by omega)
  simp (disch := omega) only [F_X11_weighed, F_X11_weighed_b0, F_X11_weighed_b133, x_has i tv, hh, ix_t, ncl, d3, d4, x_net s i c (pl4 s c), x_leastBeside s i c hj, ← reS_cl i, x_mayWeigh i tv hj, lg_cmp_eq, k59 s, r59_1 s, k60 s, l60 s, k0 s, r0_1 s, k3 s, r3_1 s, r3_2 s, r3_3 s, r3_4 s, r3_6 s, r3_7 s, r3_8 s, r3_9 s, r3_16 s, k4 s, k5 s, k6 s, k7 s, k8 s, k9 s, l4 s, l5 s, l6 s, l7 s, l8 s, l9 s, k11 s, r11_1 s, r11_2 s, r11_3 s, k12 s, k13 s, k14 s, l12 s, l13 s, l14 s, k15 s, r0_0 s, k1 s, t0_d, tk_d, t0_k, t0_l, t0_r, t0_60, tk_k, tk_l, tk_r, tk_60, hS_k, hS_l, hS_r, hS_60, one0, b2_t, b2_f, Bool.not_true, Bool.not_false, Bool.false_eq_true, gd_t, ob_s, ob2_s, ob4_s, sm_l, sm_r, ac_s, decide_true, decide_false, eq_self, ne_eq, not_false_eq_true, not_true_eq_false, if_true, if_false, ite_true, ite_false, reduceIte, or_true, true_or, or_false, false_or, and_true, true_and, Bool.false_eq_true, reduceCtorEq]
  unfold wdS
  by_cases z : f (11 + 4 * tin f j) = 0
  · simp only [z, gd_t, ob_s, ob2_s, ob4_s, sm_l, sm_r, ac_s, decide_true, decide_false, eq_self, ne_eq, not_false_eq_true, not_true_eq_false, if_true, if_false, ite_true, ite_false, reduceIte, or_true, true_or, or_false, false_or, and_true, true_and, Bool.false_eq_true, reduceCtorEq]
  · simp only [z, wide0 z, gd_t, ob_s, ob2_s, ob4_s, sm_l, sm_r, ac_s, decide_true, decide_false, eq_self, ne_eq, not_false_eq_true, not_true_eq_false, if_true, if_false, ite_true, ite_false, reduceIte, or_true, true_or, or_false, false_or, and_true, true_and, Bool.false_eq_true, reduceCtorEq]
    by_cases q : (reS f j (m.toInt64 - (netS f 0 (sit f)).toInt64) (nT f)) - (reS f j (m.toInt64 - (netS f 0 (sit f)).toInt64) (nT f)) / (f (11 + 4 * tin f j)).toInt64 * (f (11 + 4 * tin f j)).toInt64 = 0
    · simp only [q, gd_t, ob_s, ob2_s, ob4_s, sm_l, sm_r, ac_s, decide_true, decide_false, eq_self, ne_eq, not_false_eq_true, not_true_eq_false, if_true, if_false, ite_true, ite_false, reduceIte, or_true, true_or, or_false, false_or, and_true, true_and, Bool.false_eq_true, reduceCtorEq]
      by_cases q1 : (reS f j (m.toInt64 - (netS f 0 (sit f)).toInt64) (nT f)) / (f (11 + 4 * tin f j)).toInt64 < (f (53 + 3 * j)).toInt64
      · simp only [q1, Bool.not_true, Bool.false_and, b2_f, gd_t, ob_s, ob2_s, ob4_s, sm_l, sm_r, ac_s, decide_true, decide_false, eq_self, ne_eq, not_false_eq_true, not_true_eq_false, if_true, if_false, ite_true, ite_false, reduceIte, or_true, true_or, or_false, false_or, and_true, true_and, Bool.false_eq_true, reduceCtorEq]
      · by_cases q2 : (f (54 + 3 * j)).toInt64 < (reS f j (m.toInt64 - (netS f 0 (sit f)).toInt64) (nT f)) / (f (11 + 4 * tin f j)).toInt64
        · simp only [q1, q2, Bool.not_true, Bool.and_false, b2_f, gd_t, ob_s, ob2_s, ob4_s, sm_l, sm_r, ac_s, decide_true, decide_false, eq_self, ne_eq, not_false_eq_true, not_true_eq_false, if_true, if_false, ite_true, ite_false, reduceIte, or_true, true_or, or_false, false_or, and_true, true_and, Bool.false_eq_true, reduceCtorEq]
        · simp only [q1, q2, Bool.not_false, Bool.and_self, b2_t, one0, gd_t, ob_s, ob2_s, ob4_s, sm_l, sm_r, ac_s, decide_true, decide_false, eq_self, ne_eq, not_false_eq_true, not_true_eq_false, if_true, if_false, ite_true, ite_false, reduceIte, or_true, true_or, or_false, false_or, and_true, true_and, Bool.false_eq_true, reduceCtorEq]
    · simp only [q, gd_t, ob_s, ob2_s, ob4_s, sm_l, sm_r, ac_s, decide_true, decide_false, eq_self, ne_eq, not_false_eq_true, not_true_eq_false, if_true, if_false, ite_true, ite_false, reduceIte, or_true, true_or, or_false, false_or, and_true, true_and, Bool.false_eq_true, reduceCtorEq]
theorem m_weiL (s : Sh h) (i : Inv (zI h 60)) {j : Nat} (hj : j < nT (zI h 60)) (b : Int64) : iter (fun z : Int64 × Int32 => F_X12_weighed_l37 59 (nI j) z.1 z.2 h) FU (b, 0) = some (reS (zI h 60) j b (nT (zI h 60))) := by
  have hn := iT6 i
  have r8 := iR8 i
  refine iter_run (fun k => (reS (zI h 60) j b k, nI k)) (nT (zI h 60)) _ (fun k hk => ?_) ?_ (FU_lt (by omega))
  · show F_X12_weighed_l37 59 (nI j) (reS (zI h 60) j b k) (nI k) h = some (Sum.inl (reS (zI h 60) j b k - (if k = j then 0 else (zI h 60 (53 + 3 * k)).toInt64 * (zI h 60 (11 + 4 * tin (zI h 60) k)).toInt64), nI (k + 1)))
    obtain ⟨-, -, -, t4, t5⟩ := itr i k hk
    by_cases e : k = j
    · subst e
      simp (disch := omega) only [F_X12_weighed_l37, F_X12_weighed_b79, m_trunks s, iT i, nle_f hk, nI_1, k59 s, r59_1 s, k60 s, l60 s, k0 s, r0_1 s, k3 s, r3_1 s, r3_2 s, r3_3 s, r3_4 s, r3_6 s, r3_7 s, r3_8 s, r3_9 s, r3_16 s, k4 s, k5 s, k6 s, k7 s, k8 s, k9 s, l4 s, l5 s, l6 s, l7 s, l8 s, l9 s, k11 s, r11_1 s, r11_2 s, r11_3 s, k12 s, k13 s, k14 s, l12 s, l13 s, l14 s, k15 s, r0_0 s, k1 s, gd_t, ob_s, ob2_s, ob4_s, sm_l, sm_r, ac_s, decide_true, decide_false, eq_self, ne_eq, not_false_eq_true, not_true_eq_false, if_true, if_false, ite_true, ite_false, reduceIte, or_true, true_or, or_false, false_or, and_true, true_and, Bool.false_eq_true, reduceCtorEq]
    · have e' : (nI k = nI j) = False := neq_f e (by omega) (by omega)
      simp (disch := omega) only [F_X12_weighed_l37, F_X12_weighed_b79, m_trunks s, iT i, nle_f hk, nI_1, e, e', m_ofL s, m_ofI s, t4, m_ofX s, k59 s, r59_1 s, k60 s, l60 s, k0 s, r0_1 s, k3 s, r3_1 s, r3_2 s, r3_3 s, r3_4 s, r3_6 s, r3_7 s, r3_8 s, r3_9 s, r3_16 s, k4 s, k5 s, k6 s, k7 s, k8 s, k9 s, l4 s, l5 s, l6 s, l7 s, l8 s, l9 s, k11 s, r11_1 s, r11_2 s, r11_3 s, k12 s, k13 s, k14 s, l12 s, l13 s, l14 s, k15 s, r0_0 s, k1 s, gd_t, ob_s, ob2_s, ob4_s, sm_l, sm_r, ac_s, decide_true, decide_false, eq_self, ne_eq, not_false_eq_true, not_true_eq_false, if_true, if_false, ite_true, ite_false, reduceIte, or_true, true_or, or_false, false_or, and_true, true_and, Bool.false_eq_true, reduceCtorEq]
  · show F_X12_weighed_l37 59 (nI j) (reS (zI h 60) j b (nT (zI h 60))) (nI (nT (zI h 60))) h = _
    simp only [F_X12_weighed_l37, m_trunks s, iT i, Int32.le_refl, k59 s, r59_1 s, k60 s, l60 s, k0 s, r0_1 s, k3 s, r3_1 s, r3_2 s, r3_3 s, r3_4 s, r3_6 s, r3_7 s, r3_8 s, r3_9 s, r3_16 s, k4 s, k5 s, k6 s, k7 s, k8 s, k9 s, l4 s, l5 s, l6 s, l7 s, l8 s, l9 s, k11 s, r11_1 s, r11_2 s, r11_3 s, k12 s, k13 s, k14 s, l12 s, l13 s, l14 s, k15 s, r0_0 s, k1 s, gd_t, ob_s, ob2_s, ob4_s, sm_l, sm_r, ac_s, decide_true, decide_false, eq_self, ne_eq, not_false_eq_true, not_true_eq_false, if_true, if_false, ite_true, ite_false, reduceIte, or_true, true_or, or_false, false_or, and_true, true_and, Bool.false_eq_true, reduceCtorEq]
theorem m_weighed (s : Sh h) (i : Inv (zI h 60)) (v m : Int32) : F_X12_weighed 59 v m h = if isIn v (nT (zI h 60)) then some (wdS (zI h 60) v.toNatClampNeg m, hT h) else some (0, tk h 1) := by
  have t6 := iT6 i
  have r8 := iR8 i
  simp only [F_X12_weighed, F_X12_weighed_b0, F_X12_weighed_b115, F_X12_weighed_b150, F_X12_weighed_b157, m_noTrunk (t0_s s) (t0_i i), m_throwsIf (t0_s s), k59 s, r59_1 s, k60 s, l60 s, k0 s, r0_1 s, k3 s, r3_1 s, r3_2 s, r3_3 s, r3_4 s, r3_6 s, r3_7 s, r3_8 s, r3_9 s, r3_16 s, k4 s, k5 s, k6 s, k7 s, k8 s, k9 s, l4 s, l5 s, l6 s, l7 s, l8 s, l9 s, k11 s, r11_1 s, r11_2 s, r11_3 s, k12 s, k13 s, k14 s, l12 s, l13 s, l14 s, k15 s, r0_0 s, k1 s, t0_d, tk_d, t0_k, t0_l, t0_r, t0_60, tk_k, tk_l, tk_r, tk_60, hS_k, hS_l, hS_r, hS_60, one0, b2_t, b2_f, Bool.not_true, Bool.not_false, Bool.false_eq_true, gd_t, ob_s, ob2_s, ob4_s, sm_l, sm_r, ac_s, decide_true, decide_false, eq_self, ne_eq, not_false_eq_true, not_true_eq_false, if_true, if_false, ite_true, ite_false, reduceIte, or_true, true_or, or_false, false_or, and_true, true_and, Bool.false_eq_true, reduceCtorEq]
  cases q : isIn v (nT (zI h 60)) with
  | false => simp only [t0_d, tk_d, t0_k, t0_l, t0_r, t0_60, tk_k, tk_l, tk_r, tk_60, hS_k, hS_l, hS_r, hS_60, one0, b2_t, b2_f, Bool.not_true, Bool.not_false, Bool.false_eq_true, gd_t, ob_s, ob2_s, ob4_s, sm_l, sm_r, ac_s, decide_true, decide_false, eq_self, ne_eq, not_false_eq_true, not_true_eq_false, if_true, if_false, ite_true, ite_false, reduceIte, or_true, true_or, or_false, false_or, and_true, true_and, Bool.false_eq_true, reduceCtorEq]
  | true =>
    obtain ⟨j, hj, rfl⟩ := isIn_of (by omega) q
    obtain ⟨-, -, -, t4, t5⟩ := itr i j hj
    have n0 : F_X12_net 59 0 (hT h) = some (netS (zI h 60) 0 (sit (zI h 60))) := by
      have := m_net (hT_sh s) (hT_i i) (show 0 < 2 by omega) (hT_s' i)
      rw [hT_60] at this
      exact this
    have wl := m_weiL (hT_sh s) (hT_i i) (j := j) (by rw [hT_60]; exact hj)
    rw [hT_60] at wl
    simp (disch := omega) only [m_sitsT s i, n0, wl, m_ofI (hT_sh s), m_ofL (hT_sh s), m_ofM (hT_sh s), m_ofX (hT_sh s), hT_60, t4, ncl, k59 (hT_sh s), lg_cmp_eq, lg_cmp_lt, lg_cmp_le, k59 s, r59_1 s, k60 s, l60 s, k0 s, r0_1 s, k3 s, r3_1 s, r3_2 s, r3_3 s, r3_4 s, r3_6 s, r3_7 s, r3_8 s, r3_9 s, r3_16 s, k4 s, k5 s, k6 s, k7 s, k8 s, k9 s, l4 s, l5 s, l6 s, l7 s, l8 s, l9 s, k11 s, r11_1 s, r11_2 s, r11_3 s, k12 s, k13 s, k14 s, l12 s, l13 s, l14 s, k15 s, r0_0 s, k1 s, t0_d, tk_d, t0_k, t0_l, t0_r, t0_60, tk_k, tk_l, tk_r, tk_60, hS_k, hS_l, hS_r, hS_60, one0, b2_t, b2_f, Bool.not_true, Bool.not_false, Bool.false_eq_true, gd_t, ob_s, ob2_s, ob4_s, sm_l, sm_r, ac_s, decide_true, decide_false, eq_self, ne_eq, not_false_eq_true, not_true_eq_false, if_true, if_false, ite_true, ite_false, reduceIte, or_true, true_or, or_false, false_or, and_true, true_and, Bool.false_eq_true, reduceCtorEq]
    unfold wdS
    by_cases z : zI h 60 (11 + 4 * tin (zI h 60) j) = 0
    · simp only [z, gd_t, ob_s, ob2_s, ob4_s, sm_l, sm_r, ac_s, decide_true, decide_false, eq_self, ne_eq, not_false_eq_true, not_true_eq_false, if_true, if_false, ite_true, ite_false, reduceIte, or_true, true_or, or_false, false_or, and_true, true_and, Bool.false_eq_true, reduceCtorEq]
    · simp only [z, wide0 z, gd_t, ob_s, ob2_s, ob4_s, sm_l, sm_r, ac_s, decide_true, decide_false, eq_self, ne_eq, not_false_eq_true, not_true_eq_false, if_true, if_false, ite_true, ite_false, reduceIte, or_true, true_or, or_false, false_or, and_true, true_and, Bool.false_eq_true, reduceCtorEq]
      by_cases q : (reS (zI h 60) j (m.toInt64 - (netS (zI h 60) 0 (sit (zI h 60))).toInt64) (nT (zI h 60))) - (reS (zI h 60) j (m.toInt64 - (netS (zI h 60) 0 (sit (zI h 60))).toInt64) (nT (zI h 60))) / (zI h 60 (11 + 4 * tin (zI h 60) j)).toInt64 * (zI h 60 (11 + 4 * tin (zI h 60) j)).toInt64 = 0
      · simp only [q, gd_t, ob_s, ob2_s, ob4_s, sm_l, sm_r, ac_s, decide_true, decide_false, eq_self, ne_eq, not_false_eq_true, not_true_eq_false, if_true, if_false, ite_true, ite_false, reduceIte, or_true, true_or, or_false, false_or, and_true, true_and, Bool.false_eq_true, reduceCtorEq]
        by_cases q1 : (reS (zI h 60) j (m.toInt64 - (netS (zI h 60) 0 (sit (zI h 60))).toInt64) (nT (zI h 60))) / (zI h 60 (11 + 4 * tin (zI h 60) j)).toInt64 < (zI h 60 (53 + 3 * j)).toInt64
        · simp only [q1, gd_t, ob_s, ob2_s, ob4_s, sm_l, sm_r, ac_s, decide_true, decide_false, eq_self, ne_eq, not_false_eq_true, not_true_eq_false, if_true, if_false, ite_true, ite_false, reduceIte, or_true, true_or, or_false, false_or, and_true, true_and, Bool.false_eq_true, reduceCtorEq]
        · by_cases q2 : (zI h 60 (54 + 3 * j)).toInt64 < (reS (zI h 60) j (m.toInt64 - (netS (zI h 60) 0 (sit (zI h 60))).toInt64) (nT (zI h 60))) / (zI h 60 (11 + 4 * tin (zI h 60) j)).toInt64
          · have q3 := lg_lt_not_le q2
            simp only [q1, q2, q3, gd_t, ob_s, ob2_s, ob4_s, sm_l, sm_r, ac_s, decide_true, decide_false, eq_self, ne_eq, not_false_eq_true, not_true_eq_false, if_true, if_false, ite_true, ite_false, reduceIte, or_true, true_or, or_false, false_or, and_true, true_and, Bool.false_eq_true, reduceCtorEq]
          · have q3 : (reS (zI h 60) j (m.toInt64 - (netS (zI h 60) 0 (sit (zI h 60))).toInt64) (nT (zI h 60))) / (zI h 60 (11 + 4 * tin (zI h 60) j)).toInt64 ≤ (zI h 60 (54 + 3 * j)).toInt64 := Int64.not_lt.mp q2
            simp only [q1, q2, q3, gd_t, ob_s, ob2_s, ob4_s, sm_l, sm_r, ac_s, decide_true, decide_false, eq_self, ne_eq, not_false_eq_true, not_true_eq_false, if_true, if_false, ite_true, ite_false, reduceIte, or_true, true_or, or_false, false_or, and_true, true_and, Bool.false_eq_true, reduceCtorEq]
      · simp only [q, gd_t, ob_s, ob2_s, ob4_s, sm_l, sm_r, ac_s, decide_true, decide_false, eq_self, ne_eq, not_false_eq_true, not_true_eq_false, if_true, if_false, ite_true, ite_false, reduceIte, or_true, true_or, or_false, false_or, and_true, true_and, Bool.false_eq_true, reduceCtorEq]
theorem j_weighed (g : GS h) (v m : Int32) : JB h (F_L_weighed 0 v m 72) (F_X12_weighed 59 v m) := by
  obtain ⟨s, i, c, -⟩ := id g
  have t6 := iT6 i
  cases q : isIn v (nT (zI h 60)) with
  | false =>
    have e : F_X11_weighed 0 v m h = some (.inr 2, h, 1, 6) := by
      simp only [F_X11_weighed, F_X11_weighed_b0, x_has i (tv11 s i c), q, k59 s, r59_1 s, k60 s, l60 s, k0 s, r0_1 s, k3 s, r3_1 s, r3_2 s, r3_3 s, r3_4 s, r3_6 s, r3_7 s, r3_8 s, r3_9 s, r3_16 s, k4 s, k5 s, k6 s, k7 s, k8 s, k9 s, l4 s, l5 s, l6 s, l7 s, l8 s, l9 s, k11 s, r11_1 s, r11_2 s, r11_3 s, k12 s, k13 s, k14 s, l12 s, l13 s, l14 s, k15 s, r0_0 s, k1 s, t0_d, tk_d, t0_k, t0_l, t0_r, t0_60, tk_k, tk_l, tk_r, tk_60, hS_k, hS_l, hS_r, hS_60, one0, b2_t, b2_f, Bool.not_true, Bool.not_false, Bool.false_eq_true, gd_t, ob_s, ob2_s, ob4_s, sm_l, sm_r, ac_s, decide_true, decide_false, eq_self, ne_eq, not_false_eq_true, not_true_eq_false, if_true, if_false, ite_true, ite_false, reduceIte, or_true, true_or, or_false, false_or, and_true, true_and, Bool.false_eq_true, reduceCtorEq]
    refine JB_t g (k := 1) (by decide) ?_ ⟨0, zI (tk h 1), ?_, tk_m, tk_z⟩
    · unfold F_L_weighed; rw [gd_d (k0 s), e, ob4_s]; rfl
    · rw [m_weighed s i, q]
      rfl
  | true =>
    obtain ⟨j, hj, rfl⟩ := isIn_of (by omega) q
    have e := x_weighed s i c hj m
    refine JB_r g (r := wdS (zI h 60) j m) ?_ ⟨zI (hT h), ?_, hT_m, hT_z⟩
    · unfold F_L_weighed; rw [gd_d (k0 s), e, ob4_s]; exact put_out s _
    · refine (m_weighed (h := setL h 72 0 (wdS (zI h 60) j m).toInt64) s i (nI j) m).trans ?_
      show (if isIn (nI j) (nT (zI h 60)) then _ else _) = _
      rw [q, nI_clamp (by omega)]
      rfl
end WEIGHED
