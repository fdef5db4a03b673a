/-! CALLS: weigh, weighed -/
section WEIGH
variable {h : Hp}
theorem GS_tk (g : GS h) (k : Int32) : GS (tk h k) := by
  have := GS_w g (QN_of (tk_m (c := k)))
  exact this
theorem GS_t0 (g : GS h) : GS (t0 h) := by
  have := GS_w g (QN_of t0_m)
  exact this
theorem GS_hT (g : GS h) : GS (hT h) := by
  have := GS_w g (QN_of hT_m)
  exact this
def JW (h : Hp) (FL : Hp → Option (Int32 × Hp × Nat × Nat)) (FM : Hp → Option (Unit × Hp)) : Prop := ∃ k h1 c s h2, FL h = some (k, h1, c, s) ∧ FM h1 = some ((), h2) ∧ kd h1 59 = 11 ∧ zI h2 59 0 = k ∧ GS h2 ∧ c + potC h2 ≤ potC h + 1 ∧ s + potS h2 ≤ potS h + 6
theorem x_mayWeigh {f : Nat → Int32} (i : Inv f) {T : Nat} {tf : Nat → Nat} (t : TV h T f tf) {j : Nat} (hj : j < nT f) (w : Int64) : F_X8_mayWeigh T (nI j) w h = some (b2 (!decide (w < (f (53 + 3 * j)).toInt64) && !decide ((f (54 + 3 * j)).toInt64 < w))) := by
  have hn := iT6 i
  obtain ⟨⟨t1, t2, t3, t4⟩, ⟨u1, u2, u3, u4, u5, u6⟩, t5, t6⟩ := t
  obtain ⟨h1, h2, h3, h4⟩ := t6 j hj
  simp (disch := omega) only [F_X8_mayWeigh, F_X8_mayWeigh_b0, F_X8_mayWeigh_b28, F_X8_mayWeigh_b29, z_g, o_g, t1, t2, t3, u1, u2, u4, u5, ix_t, ncl, h1, h2, lg_cmp_lt, lg_cmp_gt, gd_t, ob_s, ob2_s, ob4_s, sm_l, sm_r, ac_s, decide_true, decide_false, eq_self, ne_eq, not_false_eq_true, not_true_eq_false, if_true, if_false, ite_true, ite_false, reduceIte, or_true, true_or, or_false, false_or, and_true, true_and, Bool.false_eq_true, reduceCtorEq]
  by_cases q1 : w < (f (53 + 3 * j)).toInt64
  · simp only [q1, gd_t, ob_s, ob2_s, ob4_s, sm_l, sm_r, ac_s, decide_true, decide_false, eq_self, ne_eq, not_false_eq_true, not_true_eq_false, if_true, if_false, ite_true, ite_false, reduceIte, or_true, true_or, or_false, false_or, and_true, true_and, Bool.false_eq_true, reduceCtorEq, Bool.not_true, Bool.false_and, b2_f]
  · by_cases q2 : (f (54 + 3 * j)).toInt64 < w
    · simp only [q1, q2, gd_t, ob_s, ob2_s, ob4_s, sm_l, sm_r, ac_s, decide_true, decide_false, eq_self, ne_eq, not_false_eq_true, not_true_eq_false, if_true, if_false, ite_true, ite_false, reduceIte, or_true, true_or, or_false, false_or, and_true, true_and, Bool.false_eq_true, reduceCtorEq, Bool.not_true, Bool.not_false, Bool.and_false, b2_f]
    · simp only [q1, q2, gd_t, ob_s, ob2_s, ob4_s, sm_l, sm_r, ac_s, decide_true, decide_false, eq_self, ne_eq, not_false_eq_true, not_true_eq_false, if_true, if_false, ite_true, ite_false, reduceIte, or_true, true_or, or_false, false_or, and_true, true_and, Bool.false_eq_true, reduceCtorEq, Bool.not_false, Bool.and_self, b2_t]
theorem Inv_wei {f : Nat → Int32} (i : Inv f) {j : Nat} (hj : j < nT f) {w : Int32} (hw : bw w 0 300) : Inv (va_up (va_up f (53 + 3 * j) w) (54 + 3 * j) w) := by
  have r8 := iR8 i
  have g5 := iG5 i
  have t6 := iT6 i
  have b20 := iB20 i
  have lo : ∀ k, k ≠ 53 + 3 * j → k ≠ 54 + 3 * j → va_up (va_up f (53 + 3 * j) w) (54 + 3 * j) w k = f k := fun k h1 h2 => by rw [va_n _ _ _ _ h2, va_n _ _ _ _ h1]
  refine Inv_mk i (fun k hk => lo k (by omega) (by omega)) (fun r hr => ?_) (fun g hg => ?_) (fun t ht => ?_) (fun b hb => ?_)
  · rw [lo _ (by omega) (by omega), lo _ (by omega) (by omega), lo _ (by omega) (by omega), lo _ (by omega) (by omega)]
    exact irm i r hr
  · rw [lo _ (by omega) (by omega), lo _ (by omega) (by omega)]
    exact ig2 i g hg
  · by_cases e : t = j
    · subst e
      rw [va_n _ _ _ _ (show 53 + 3 * t ≠ 54 + 3 * t by omega), va_e, va_e, lo _ (by omega) (by omega)]
      exact ⟨hw, hw, Int.le_refl _, (it2 i t ht).2.2.2⟩
    · rw [lo _ (by omega) (by omega), lo _ (by omega) (by omega), lo _ (by omega) (by omega)]
      exact it2 i t ht
  · rw [lo _ (by omega) (by omega), lo _ (by omega) (by omega), lo _ (by omega) (by omega)]
    exact ibk i b hb
def wgJ1 (I : Nat → Nat → Int32) (j : Nat) (w : Int32) : Nat → Nat → Int32 := up2 (up2 I 12 j w) 13 j w
def wgJ2 (I : Nat → Nat → Int32) (j : Nat) (w : Int32) : Nat → Nat → Int32 := up2 (up2 (up2 (wgJ1 I j w) 59 0 0) 60 (53 + 3 * j) w) 60 (54 + 3 * j) w
theorem wg_gs (g : GS h) {j : Nat} (hj : j < nT (zI h 60)) {w : Int32} (hw : bw w 0 300) : GS (wI h (wgJ2 (zI h) j w)) := by
  obtain ⟨s, i, c, -⟩ := id g
  have t6 := iT6 i
  have e60 : wgJ2 (zI h) j w 60 = va_up (va_up (zI h 60) (53 + 3 * j) w) (54 + 3 * j) w := by
    unfold wgJ2 wgJ1
    rw [up2_v1, up2_v1, up2_a _ _ _ _ _ (by decide), up2_a _ _ _ _ _ (by decide), up2_a _ _ _ _ _ (by decide)]
  have lo : ∀ k, k ≠ 53 + 3 * j → k ≠ 54 + 3 * j → wgJ2 (zI h) j w 60 k = zI h 60 k := fun k h1 h2 => by rw [e60, va_n _ _ _ _ h2, va_n _ _ _ _ h1]
  have ot : ∀ a, a ≠ 12 → a ≠ 13 → a ≠ 59 → a ≠ 60 → wgJ2 (zI h) j w a = zI h a := fun a h1 h2 h3 h4 => by
    unfold wgJ2 wgJ1
    rw [up2_a _ _ _ _ _ h4, up2_a _ _ _ _ _ h4, up2_a _ _ _ _ _ h3, up2_a _ _ _ _ _ h2, up2_a _ _ _ _ _ h1]
  have a12 : ∀ k, wgJ2 (zI h) j w 12 k = if k = j then w else zI h 12 k := fun k => by
    unfold wgJ2 wgJ1
    rw [up2_a _ _ _ _ _ (by decide), up2_a _ _ _ _ _ (by decide), up2_a _ _ _ _ _ (by decide), up2_a _ _ _ _ _ (by decide)]
    by_cases hk : k = j
    · subst hk
      rw [up2_e, if_pos rfl]
    · rw [up2_k _ _ _ _ _ hk, if_neg hk]
  have a13 : ∀ k, wgJ2 (zI h) j w 13 k = if k = j then w else zI h 13 k := fun k => by
    unfold wgJ2 wgJ1
    rw [up2_a _ _ _ _ _ (by decide), up2_a _ _ _ _ _ (by decide), up2_a _ _ _ _ _ (by decide)]
    by_cases hk : k = j
    · subst hk
      rw [up2_e, if_pos rfl]
    · rw [up2_k _ _ _ _ _ hk, if_neg hk, up2_a _ _ _ _ _ (by decide)]
  refine GS_many g (by rw [e60]; exact Inv_wei i hj hw) ?_ (lo 1 (by omega) (by omega)) (lo 4 (by omega) (by omega)) (fun k h1 h2 => lo k (by omega) (by omega)) (fun k h1 h2 => lo k (by omega) (by omega)) ?_
  · intro a k x m
    have q := HR_mp c a k x m
    have hb := mp_bd m
    have mx : Mp 9 j (53 + 3 * j) := mp_T (by omega) (by omega) (by omega) (by omega)
    have my : Mp 10 j (54 + 3 * j) := mp_T (by omega) (by omega) (by omega) (by omega)
    by_cases wx : x = 53 + 3 * j
    · obtain ⟨rfl, rfl⟩ := (mp_fun mx m).mpr wx
      subst wx
      rw [e60, va_n _ _ _ _ (by omega), va_e, a12, if_pos rfl]
    · by_cases wy : x = 54 + 3 * j
      · obtain ⟨rfl, rfl⟩ := (mp_fun my m).mpr wy
        subst wy
        rw [e60, va_e, a13, if_pos rfl]
      · rw [lo x wx wy, ← q]
        by_cases a9 : a = 9
        · subst a9
          rw [a12, if_neg (fun e => wx ((mp_fun mx m).mp ⟨rfl, e⟩))]
        · by_cases a10 : a = 10
          · subst a10
            rw [a13, if_neg (fun e => wy ((mp_fun my m).mp ⟨rfl, e⟩))]
          · rw [ot _ (by omega) (by omega) (by omega) (by omega)]
  · intro a k n1 n2 n3 n4
    by_cases a59 : a = 59
    · subst a59
      unfold wgJ2 wgJ1
      rw [up2_a _ _ _ _ _ (by decide), up2_a _ _ _ _ _ (by decide), up2_k _ _ _ _ _ (by unfold mNo at n1; omega), up2_a _ _ _ _ _ (by decide), up2_a _ _ _ _ _ (by decide)]
    · rw [ot _ (by omega) (by omega) a59 n4]
theorem m_weigh (s : Sh h) (i : Inv (zI h 60)) (v w : Int32) : F_X12_weigh 59 v w h = if isIn v (nT (zI h 60)) then (if w < zI h 60 (53 + 3 * v.toNatClampNeg) ∨ zI h 60 (54 + 3 * v.toNatClampNeg) < w then some ((), tk h 2) else some ((), setI (setI (t0 h) 60 (53 + 3 * v.toNatClampNeg) w) 60 (54 + 3 * v.toNatClampNeg) w)) else some ((), tk h 1) := by
  have t6 := iT6 i
  simp only [F_X12_weigh, F_X12_weigh_b0, F_X12_weigh_b43, F_X12_weigh_b50, m_in, m_noTrunk (t0_s s) (t0_i i), m_throwsIf (t0_s s), k59 s, r59_1 s, k60 s, l60 s, k0 s, r0_1 s, k3 s, r3_1 s, r3_2 s, r3_3 s, r3_4 s, r3_6 s, r3_7 s, r3_8 s, r3_9 s, r3_16 s, k4 s, k5 s, k6 s, k7 s, k8 s, k9 s, l4 s, l5 s, l6 s, l7 s, l8 s, l9 s, k11 s, r11_1 s, r11_2 s, r11_3 s, k12 s, k13 s, k14 s, l12 s, l13 s, l14 s, k15 s, r0_0 s, k1 s, t0_d, tk_d, t0_k, t0_l, t0_r, t0_60, tk_k, tk_l, tk_r, tk_60, hS_k, hS_l, hS_r, hS_60, one0, b2_t, b2_f, Bool.not_true, Bool.not_false, Bool.false_eq_true, gd_t, ob_s, ob2_s, ob4_s, sm_l, sm_r, ac_s, decide_true, decide_false, eq_self, ne_eq, not_false_eq_true, not_true_eq_false, if_true, if_false, ite_true, ite_false, reduceIte, or_true, true_or, or_false, false_or, and_true, true_and, Bool.false_eq_true, reduceCtorEq]
  cases q : isIn v (nT (zI h 60)) with
  | false => simp only [t0_d, tk_d, t0_k, t0_l, t0_r, t0_60, tk_k, tk_l, tk_r, tk_60, hS_k, hS_l, hS_r, hS_60, one0, b2_t, b2_f, Bool.not_true, Bool.not_false, Bool.false_eq_true, gd_t, ob_s, ob2_s, ob4_s, sm_l, sm_r, ac_s, decide_true, decide_false, eq_self, ne_eq, not_false_eq_true, not_true_eq_false, if_true, if_false, ite_true, ite_false, reduceIte, or_true, true_or, or_false, false_or, and_true, true_and, Bool.false_eq_true, reduceCtorEq]
  | true =>
    obtain ⟨j, hj, rfl⟩ := isIn_of (by omega) q
    simp (disch := omega) only [m_ofL (t0_s s), m_ofM (t0_s s), ncl, k59 s, r59_1 s, k60 s, l60 s, k0 s, r0_1 s, k3 s, r3_1 s, r3_2 s, r3_3 s, r3_4 s, r3_6 s, r3_7 s, r3_8 s, r3_9 s, r3_16 s, k4 s, k5 s, k6 s, k7 s, k8 s, k9 s, l4 s, l5 s, l6 s, l7 s, l8 s, l9 s, k11 s, r11_1 s, r11_2 s, r11_3 s, k12 s, k13 s, k14 s, l12 s, l13 s, l14 s, k15 s, r0_0 s, k1 s, t0_d, tk_d, t0_k, t0_l, t0_r, t0_60, tk_k, tk_l, tk_r, tk_60, hS_k, hS_l, hS_r, hS_60, one0, b2_t, b2_f, Bool.not_true, Bool.not_false, Bool.false_eq_true, gd_t, ob_s, ob2_s, ob4_s, sm_l, sm_r, ac_s, decide_true, decide_false, eq_self, ne_eq, not_false_eq_true, not_true_eq_false, if_true, if_false, ite_true, ite_false, reduceIte, or_true, true_or, or_false, false_or, and_true, true_and, Bool.false_eq_true, reduceCtorEq]
    by_cases q1 : w < zI h 60 (53 + 3 * j)
    · simp only [q1, true_or, m_thr1 (t0_s s), Bool.false_and, k59 s, r59_1 s, k60 s, l60 s, k0 s, r0_1 s, k3 s, r3_1 s, r3_2 s, r3_3 s, r3_4 s, r3_6 s, r3_7 s, r3_8 s, r3_9 s, r3_16 s, k4 s, k5 s, k6 s, k7 s, k8 s, k9 s, l4 s, l5 s, l6 s, l7 s, l8 s, l9 s, k11 s, r11_1 s, r11_2 s, r11_3 s, k12 s, k13 s, k14 s, l12 s, l13 s, l14 s, k15 s, r0_0 s, k1 s, t0_d, tk_d, t0_k, t0_l, t0_r, t0_60, tk_k, tk_l, tk_r, tk_60, hS_k, hS_l, hS_r, hS_60, one0, b2_t, b2_f, Bool.not_true, Bool.not_false, Bool.false_eq_true, gd_t, ob_s, ob2_s, ob4_s, sm_l, sm_r, ac_s, decide_true, decide_false, eq_self, ne_eq, not_false_eq_true, not_true_eq_false, if_true, if_false, ite_true, ite_false, reduceIte, or_true, true_or, or_false, false_or, and_true, true_and, Bool.false_eq_true, reduceCtorEq]
    · by_cases q2 : zI h 60 (54 + 3 * j) < w
      · simp only [q1, q2, or_true, m_thr1 (t0_s s), Bool.and_false, k59 s, r59_1 s, k60 s, l60 s, k0 s, r0_1 s, k3 s, r3_1 s, r3_2 s, r3_3 s, r3_4 s, r3_6 s, r3_7 s, r3_8 s, r3_9 s, r3_16 s, k4 s, k5 s, k6 s, k7 s, k8 s, k9 s, l4 s, l5 s, l6 s, l7 s, l8 s, l9 s, k11 s, r11_1 s, r11_2 s, r11_3 s, k12 s, k13 s, k14 s, l12 s, l13 s, l14 s, k15 s, r0_0 s, k1 s, t0_d, tk_d, t0_k, t0_l, t0_r, t0_60, tk_k, tk_l, tk_r, tk_60, hS_k, hS_l, hS_r, hS_60, one0, b2_t, b2_f, Bool.not_true, Bool.not_false, Bool.false_eq_true, gd_t, ob_s, ob2_s, ob4_s, sm_l, sm_r, ac_s, decide_true, decide_false, eq_self, ne_eq, not_false_eq_true, not_true_eq_false, if_true, if_false, ite_true, ite_false, reduceIte, or_true, true_or, or_false, false_or, and_true, true_and, Bool.false_eq_true, reduceCtorEq]
      · have w1 : Sh (setI (t0 h) 60 (53 + 3 * j) w) := Sh_w s _
        simp only [q1, q2, or_self, m_thr0 (t0_s s), Bool.and_self, kd_setI, zR_setI, zl_setI, k59 s, r59_1 s, k60 s, l60 s, k0 s, r0_1 s, k3 s, r3_1 s, r3_2 s, r3_3 s, r3_4 s, r3_6 s, r3_7 s, r3_8 s, r3_9 s, r3_16 s, k4 s, k5 s, k6 s, k7 s, k8 s, k9 s, l4 s, l5 s, l6 s, l7 s, l8 s, l9 s, k11 s, r11_1 s, r11_2 s, r11_3 s, k12 s, k13 s, k14 s, l12 s, l13 s, l14 s, k15 s, r0_0 s, k1 s, t0_d, tk_d, t0_k, t0_l, t0_r, t0_60, tk_k, tk_l, tk_r, tk_60, hS_k, hS_l, hS_r, hS_60, one0, b2_t, b2_f, Bool.not_true, Bool.not_false, Bool.false_eq_true, gd_t, ob_s, ob2_s, ob4_s, sm_l, sm_r, ac_s, decide_true, decide_false, eq_self, ne_eq, not_false_eq_true, not_true_eq_false, if_true, if_false, ite_true, ite_false, reduceIte, or_true, true_or, or_false, false_or, and_true, true_and, Bool.false_eq_true, reduceCtorEq]
        simp (disch := omega) only [nl_53, nl_3, nl_0, nl_1, nmul, nadd, ix_t, ncl, Nat.add_zero, gd_t]
        rw [show 53 + 3 * j + 1 = 54 + 3 * j by omega]
theorem j_weigh (g : GS h) (v w : Int32) : JW h (F_L_weigh 0 v w) (F_X12_weigh 59 v w) := by
  obtain ⟨s, i, c, -⟩ := id g
  have t6 := iT6 i
  have tv := tv11 s i c
  cases q : isIn v (nT (zI h 60)) with
  | false =>
    refine ⟨1, h, 1, 6, tk h 1, ?_, ?_, k59 s, tk_z, GS_tk g 1, ?_, ?_⟩
    · simp only [F_L_weigh, F_X11_weigh, F_X11_weigh_b0, x_has i tv, q, k59 s, r59_1 s, k60 s, l60 s, k0 s, r0_1 s, k3 s, r3_1 s, r3_2 s, r3_3 s, r3_4 s, r3_6 s, r3_7 s, r3_8 s, r3_9 s, r3_16 s, k4 s, k5 s, k6 s, k7 s, k8 s, k9 s, l4 s, l5 s, l6 s, l7 s, l8 s, l9 s, k11 s, r11_1 s, r11_2 s, r11_3 s, k12 s, k13 s, k14 s, l12 s, l13 s, l14 s, k15 s, r0_0 s, k1 s, t0_d, tk_d, t0_k, t0_l, t0_r, t0_60, tk_k, tk_l, tk_r, tk_60, hS_k, hS_l, hS_r, hS_60, one0, b2_t, b2_f, Bool.not_true, Bool.not_false, Bool.false_eq_true, gd_t, ob_s, ob2_s, ob4_s, sm_l, sm_r, ac_s, decide_true, decide_false, eq_self, ne_eq, not_false_eq_true, not_true_eq_false, if_true, if_false, ite_true, ite_false, reduceIte, or_true, true_or, or_false, false_or, and_true, true_and, Bool.false_eq_true, reduceCtorEq]
    · rw [m_weigh s i, q]
      rfl
    · show 1 + potC h ≤ _
      omega
    · show 6 + potS h ≤ _
      omega
  | true =>
    obtain ⟨j, hj, rfl⟩ := isIn_of (by omega) q
    by_cases hq : w < zI h 60 (53 + 3 * j) ∨ zI h 60 (54 + 3 * j) < w
    · have z20 : ((2 : Nat) = 0) = False := eq_false (by decide)
      have z02 : ((0 : Nat) = 2) = False := eq_false (by decide)
      refine ⟨2, h, 1, 6, tk h 2, ?_, ?_, k59 s, tk_z, GS_tk g 2, ?_, ?_⟩
      · have e : (!decide (w.toInt64 < (zI h 60 (53 + 3 * j)).toInt64) && !decide ((zI h 60 (54 + 3 * j)).toInt64 < w.toInt64)) = false := by
          rcases hq with hq | hq
          · have := (fa_wide_lt _ _).mpr hq
            simp [this]
          · have := (fa_wide_lt _ _).mpr hq
            simp [this]
        simp only [F_L_weigh, F_X11_weigh, F_X11_weigh_b0, x_has i tv, q, x_mayWeigh i tv hj, e, z02, k59 s, r59_1 s, k60 s, l60 s, k0 s, r0_1 s, k3 s, r3_1 s, r3_2 s, r3_3 s, r3_4 s, r3_6 s, r3_7 s, r3_8 s, r3_9 s, r3_16 s, k4 s, k5 s, k6 s, k7 s, k8 s, k9 s, l4 s, l5 s, l6 s, l7 s, l8 s, l9 s, k11 s, r11_1 s, r11_2 s, r11_3 s, k12 s, k13 s, k14 s, l12 s, l13 s, l14 s, k15 s, r0_0 s, k1 s, t0_d, tk_d, t0_k, t0_l, t0_r, t0_60, tk_k, tk_l, tk_r, tk_60, hS_k, hS_l, hS_r, hS_60, one0, b2_t, b2_f, Bool.not_true, Bool.not_false, Bool.false_eq_true, gd_t, ob_s, ob2_s, ob4_s, sm_l, sm_r, ac_s, decide_true, decide_false, eq_self, ne_eq, not_false_eq_true, not_true_eq_false, if_true, if_false, ite_true, ite_false, reduceIte, or_true, true_or, or_false, false_or, and_true, true_and, Bool.false_eq_true, reduceCtorEq]
      · rw [m_weigh s i, q, nI_clamp (by omega), if_pos rfl, if_pos hq]
      · show 1 + potC h ≤ _
        omega
      · show 6 + potS h ≤ _
        omega
    · have q1 : ¬ w < zI h 60 (53 + 3 * j) := fun z => hq (Or.inl z)
      have q2 : ¬ zI h 60 (54 + 3 * j) < w := fun z => hq (Or.inr z)
      have hw : bw w 0 300 := by
        obtain ⟨a, b, -⟩ := itr i j hj
        rw [fa_lt] at q1 q2
        unfold bw at *
        omega
      have e : (!decide (w.toInt64 < (zI h 60 (53 + 3 * j)).toInt64) && !decide ((zI h 60 (54 + 3 * j)).toInt64 < w.toInt64)) = true := by
        have a1 : ¬ w.toInt64 < (zI h 60 (53 + 3 * j)).toInt64 := fun z => q1 ((fa_wide_lt _ _).mp z)
        have a2 : ¬ (zI h 60 (54 + 3 * j)).toInt64 < w.toInt64 := fun z => q2 ((fa_wide_lt _ _).mp z)
        simp [a1, a2]
      refine ⟨0, wI h (wgJ1 (zI h) j w), 0, 0, wI h (wgJ2 (zI h) j w), ?_, ?_, k59 s, ?_, wg_gs g hj hw, ?_, ?_⟩
      · simp (disch := omega) only [F_L_weigh, F_X11_weigh, F_X11_weigh_b0, x_has i tv, q, x_mayWeigh i tv hj, e, ix_t, ncl, kd_setI, zR_setI, zl_setI, k59 s, r59_1 s, k60 s, l60 s, k0 s, r0_1 s, k3 s, r3_1 s, r3_2 s, r3_3 s, r3_4 s, r3_6 s, r3_7 s, r3_8 s, r3_9 s, r3_16 s, k4 s, k5 s, k6 s, k7 s, k8 s, k9 s, l4 s, l5 s, l6 s, l7 s, l8 s, l9 s, k11 s, r11_1 s, r11_2 s, r11_3 s, k12 s, k13 s, k14 s, l12 s, l13 s, l14 s, k15 s, r0_0 s, k1 s, t0_d, tk_d, t0_k, t0_l, t0_r, t0_60, tk_k, tk_l, tk_r, tk_60, hS_k, hS_l, hS_r, hS_60, one0, b2_t, b2_f, Bool.not_true, Bool.not_false, Bool.false_eq_true, gd_t, ob_s, ob2_s, ob4_s, sm_l, sm_r, ac_s, decide_true, decide_false, eq_self, ne_eq, not_false_eq_true, not_true_eq_false, if_true, if_false, ite_true, ite_false, reduceIte, or_true, true_or, or_false, false_or, and_true, true_and, Bool.false_eq_true, reduceCtorEq]
        rfl
      · have s' : Sh (wI h (wgJ1 (zI h) j w)) := s
        have e60 : zI (wI h (wgJ1 (zI h) j w)) 60 = zI h 60 := by
          show wgJ1 (zI h) j w 60 = _
          unfold wgJ1
          rw [up2_a _ _ _ _ _ (by decide), up2_a _ _ _ _ _ (by decide)]
        rw [m_weigh s' (by rw [e60]; exact i), e60, q, nI_clamp (by omega), if_pos rfl, if_neg hq]
        rfl
      · show wgJ2 (zI h) j w 59 0 = 0
        unfold wgJ2
        rw [up2_a _ _ _ _ _ (by decide), up2_a _ _ _ _ _ (by decide), up2_e]
      · show 0 + potC h ≤ _
        omega
      · show 0 + potS h ≤ _
        omega
end WEIGH
