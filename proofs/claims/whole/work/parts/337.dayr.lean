/-! THE CALLS day AND live -/
section DAYR
variable {h : Hp} {f : Nat → Int32}
theorem TSh11 (s : Sh h) : TSh h 11 := ⟨k11 s, r11_1 s, r11_2 s, r11_3 s, k12 s, k13 s, k14 s, l12 s, l13 s, l14 s⟩
theorem TSh55 (s : Sh h) : TSh h 55 := ⟨k55 s, r55_1 s, r55_2 s, r55_3 s, k56 s, k57 s, k58 s, l56 s, l57 s, l58 s⟩
theorem r0_8 (s : Sh h) : zR h 0 8 = some 53 := by unfold Sh at s; simp only [s]
theorem cpJ_o {I : Nat → Nat → Int32} {A B a : Nat} (q : a < A ∨ A + 3 < a) : cpJ I A B a = I a := by
  unfold cpJ
  rw [va_n _ _ _ _ (by omega), va_n _ _ _ _ (by omega), va_n _ _ _ _ (by omega), up2_a _ _ _ _ _ (by omega)]
theorem cpJ_0 {I : Nat → Nat → Int32} {A B : Nat} : cpJ I A B A 0 = I B 0 := by
  unfold cpJ
  rw [va_n _ _ _ _ (by omega), va_n _ _ _ _ (by omega), va_n _ _ _ _ (by omega), up2_e]
theorem cpJ_1 {I : Nat → Nat → Int32} {A B k : Nat} (hk : k < 6) : cpJ I A B (A + 1) k = I (B + 1) k := by
  unfold cpJ
  rw [va_n _ _ _ _ (by omega), va_n _ _ _ _ (by omega), va_e, pk_cpy_in (by omega) (by omega)]
  congr 1
  omega
theorem cpJ_2 {I : Nat → Nat → Int32} {A B k : Nat} (hk : k < 6) : cpJ I A B (A + 2) k = I (B + 2) k := by
  unfold cpJ
  rw [va_n _ _ _ _ (by omega), va_e, pk_cpy_in (by omega) (by omega)]
  congr 1
  omega
theorem cpJ_3 {I : Nat → Nat → Int32} {A B k : Nat} (hk : k < 6) : cpJ I A B (A + 3) k = I (B + 3) k := by
  unfold cpJ
  rw [va_e, pk_cpy_in (by omega) (by omega)]
  congr 1
  omega
/-- the class's pass leaves a day behind: its seats S, trunks T -/
theorem x_pass (s : Sh h) (i : Inv f) (c : HR (zI h) 3 f) : ∃ hb S0 T0 D, (∃ J, hb = wI h J ∧ ∀ a, (a < 54 ∨ 58 < a) → J a = zI h a) ∧ dB hb f ∧ (∀ g, g < 5 → S0 g = f (44 + 2 * g)) ∧ (∀ t, t < 6 → T0 t = f (55 + 3 * t)) ∧ (∀ t, t < 6 → zI hb 56 t = f (53 + 3 * t) ∧ zI hb 57 t = f (54 + 3 * t)) ∧ D 2 = (dyR f S0 T0 1000).2.2.2.2 ∧ D 3 = nI (dyR f S0 T0 1000).2.2.2.1 ∧ F_X1_pass 53 3 h = some ((), dC hb (dyR f S0 T0 1000).1 (dyR f S0 T0 1000).2.2.1 D) := by
  have g5 := iG5 i
  have t6 := iT6 i
  have z0 : (0 : Int32).toNatClampNeg = 0 := by decide
  have z5 : (5 : Int32).toNatClampNeg = 5 := by decide
  have e1 : cpA h 9 0 54 0 5 = wI h (va_up (zI h) 54 (va_cpy (zI h 9) (zI h 54) 0 0 5)) := cpA_w z0 z0 z5
  generalize hI : va_up (zI h) 54 (va_cpy (zI h 9) (zI h 54) 0 0 5) = I1 at e1
  have I54 : ∀ g, g < 5 → I1 54 g = f (44 + 2 * g) := fun g hg => by
    rw [← hI, va_e, pk_cpy_in (by omega) (by omega), show 0 + (g - 0) = g by omega]
    exact (c.2.2.1 g hg).2
  have Io : ∀ a, a ≠ 54 → I1 a = zI h a := fun a ha => by rw [← hI, va_n _ _ _ _ ha]
  have s1 : Sh (wI h I1) := s
  have e2 := x_copyT (A := 55) (B := 11) (TSh55 s1) (TSh11 s1) (by omega)
  rw [wI_w, wI_I] at e2
  generalize hJ : cpJ I1 55 11 = J at e2
  have J54 : ∀ g, g < 5 → J 54 g = f (44 + 2 * g) := fun g hg => by rw [← hJ, cpJ_o (by omega), I54 g hg]
  have J55 : J 55 0 = f 2 := by rw [← hJ, cpJ_0, Io 11 (by omega)]; exact c.1.2.2.1
  have J56 : ∀ t, t < 6 → J 56 t = f (53 + 3 * t) := fun t ht => by
    rw [← hJ]
    refine (cpJ_1 ht).trans ?_
    rw [Io _ (by omega)]
    exact (c.2.2.2.1 t ht).1
  have J57 : ∀ t, t < 6 → J 57 t = f (54 + 3 * t) := fun t ht => by
    rw [← hJ]
    refine (cpJ_2 ht).trans ?_
    rw [Io _ (by omega)]
    exact (c.2.2.2.1 t ht).2.1
  have J58 : ∀ t, t < 6 → J 58 t = f (55 + 3 * t) := fun t ht => by
    rw [← hJ]
    refine (cpJ_3 ht).trans ?_
    rw [Io _ (by omega)]
    exact (c.2.2.2.1 t ht).2.2
  have Jo : ∀ a, (a < 54 ∨ 58 < a) → J a = zI h a := fun a ha => by rw [← hJ, cpJ_o (by omega), Io a (by omega)]
  have sb : Sh (wI h J) := s
  have cb : HR (zI (wI h J)) 3 f := by
    refine HR_congr (fun a ha => ?_) (fun g2 h2 => ⟨?_, ?_⟩) (fun _ _ => rfl) i c
    · exact Jo _ (by omega)
    · exact Jo _ (by omega)
    · exact Jo _ (by omega)
  have bb : dB (wI h J) f := ⟨J55, fun t ht => ⟨J56 t (by omega), J57 t (by omega)⟩⟩
  have oS : okS f (nG f) (J 54) := fun g hg => by
    rw [J54 g (by omega)]
    exact (ig2 i g hg).2
  have oT : okS f (nT f) (J 58) := fun t ht => by
    rw [J58 t (by omega)]
    exact (it2 i t ht).2.2.2
  obtain ⟨D, d2, d3, run⟩ := x_passL sb i cb bb (S0 := J 54) (T0 := J 58) (D0 := va_up (va_up (J 53) 2 (-1)) 3 0) oS oT (by rw [va_n _ _ _ _ (by decide), va_e]) (va_e _ _ _)
  refine ⟨wI h J, J 54, J 58, D, ⟨J, rfl, Jo⟩, bb, J54, J58, fun t ht => ⟨J56 t ht, J57 t ht⟩, d2, d3, ?_⟩
  have es : setI (setI (wI h J) 53 2 (-1)) 53 3 0 = dC (wI h J) (J 54) (J 58) (va_up (va_up (J 53) 2 (-1)) 3 0) := by
    have : setI (setI (wI h J) 53 2 (-1)) 53 3 0 = setI (setI (dC (wI h J) (J 54) (J 58) (J 53)) 53 2 (-1)) 53 3 0 := by
      have e : dC (wI h J) (J 54) (J 58) (J 53) = wI h J := by
        unfold dC
        rw [wI_I, wI_w, va_same, va_same, va_same]
      rw [e]
    rw [this, dC_w53, dC_w53]
  unfold F_X1_pass F_X1_pass_b0
  rw [gd_d (k3 s), r3_7 s, ob_s, gd_d (k53 s), r53_0 s, ob_s, gd_d (k9 s), gd_d (k54 s), l9 s, l54 s, cpk5, gd_t, e1, r53_1 s1, ob_s, r3_9 s1, ob_s, e2, ob2_s, gd_d (k55 s1), gd_d (k53 sb), es]
  exact ob_p run _
theorem x_day (s : Sh h) (i : Inv f) (c : HR (zI h) 3 f) (w : Int32) (q : isIn w 4 = true) : ∃ S0 T0 J, (∀ g, g < 5 → S0 g = f (44 + 2 * g)) ∧ (∀ t, t < 6 → T0 t = f (55 + 3 * t)) ∧ (∀ a, (a < 53 ∨ 58 < a) → J a = zI h a) ∧ F_X11_day 0 w h = some (.inl (dayS f (dyR f S0 T0 1000) w), wI h J, 0, 0) := by
  have r8 := iR8 i
  have t6 := iT6 i
  have g5 := iG5 i
  obtain ⟨hb, S0, T0, D, ⟨J, rfl, Jo⟩, bb, s0, tt0, -, d2, d3, e⟩ := x_pass s i c
  have oS : okS f (nG f) S0 := fun g hg => by
    rw [s0 g (by omega)]
    exact (ig2 i g hg).2
  have oT : okS f (nT f) T0 := fun t ht => by
    rw [tt0 t (by omega)]
    exact (it2 i t ht).2.2.2
  have inv := dyR_i i oS oT 1000 (Nat.le_refl _)
  generalize hz : dyR f S0 T0 1000 = z at *
  obtain ⟨i1, i2, i3, i4, i5, i6, i7⟩ := inv
  have cb : HR (zI (wI h J)) 3 f := by
    refine HR_congr (fun a ha => ?_) (fun g2 h2 => ⟨?_, ?_⟩) (fun _ _ => rfl) i c
    · exact Jo _ (by omega)
    · exact Jo _ (by omega)
    · exact Jo _ (by omega)
  have sb : Sh (wI h J) := s
  have s8 : Sh (dC (wI h J) z.1 z.2.2.1 D) := s
  have c8 : HR (zI (dC (wI h J) z.1 z.2.2.1 D)) 3 f := dC_c i cb
  have hs : seated (dC (wI h J) z.1 z.2.2.1 D) 54 (nG f) (cf z.1) := fun g hg => by
    obtain ⟨o1, o2⟩ := okS_cf i i1 hg
    rw [dC_54]
    exact ⟨o1, by omega⟩
  have an := x_asNumber s8 i c8 (k54 s) (l54 s) hs
  have hh := x_has i (dC_tv (S := z.1) (T := z.2.2.1) (D := D) sb i bb i3) 0
  refine ⟨S0, T0, zI (dC (wI h J) z.1 z.2.2.1 D), s0, tt0, fun a ha => ?_, ?_⟩
  · rw [dC_o (by omega) (by omega) (by omega)]
    exact Jo a (by omega)
  · rw [hz]
    have w0 : ¬ w < 0 := by
      obtain ⟨j, hj, rfl⟩ := isIn_of (by omega) q
      exact nI_pos (by omega)
    have w3 : w ≤ 3 := by
      obtain ⟨j, hj, rfl⟩ := isIn_of (by omega) q
      exact nI_le (b := 3) (by omega) (by omega)
    unfold F_X11_day F_X11_day_b0 F_X11_day_b117
    rw [if_neg w0, if_pos w3, gd_d (k0 s), r0_8 s, ob_s, r0_1 s, ob_s, e, ob2_s, gd_d (k53 s)]
    simp only [k0 s8, r0_8 s8, k53 s8, r0_1 s8, r53_0 s8, an, k3 s8, r53_1 s8, hh, k55 s8, r55_3 s8, k58 s8, l58 s8, show ix (0 : Int32) 6 = true by decide, dC_53, dC_58, d2, d3, show (0 : Int32).toNatClampNeg = 0 by decide, gd_t, ob_s, ob2_s, ob4_s, sm_l, sm_r, ac_s, decide_true, decide_false, eq_self, ne_eq, not_false_eq_true, not_true_eq_false, if_true, if_false, ite_true, ite_false, reduceIte, or_true, true_or, or_false, false_or, and_true, true_and, Bool.false_eq_true, reduceCtorEq]
    unfold dayS
    have n1 : ((1 : Int32) = 0) = False := eq_false (by decide)
    have n2 : ((2 : Int32) = 0) = False := eq_false (by decide)
    have n3 : ((2 : Int32) = 1) = False := eq_false (by decide)
    have n4 : ((3 : Int32) = 0) = False := eq_false (by decide)
    have n5 : ((3 : Int32) = 1) = False := eq_false (by decide)
    have n6 : ((3 : Int32) = 2) = False := eq_false (by decide)
    rcases in4 q with rfl | rfl | rfl | rfl
    · simp only [gd_t, ob_s, ob2_s, ob4_s, sm_l, sm_r, ac_s, decide_true, decide_false, eq_self, ne_eq, not_false_eq_true, not_true_eq_false, if_true, if_false, ite_true, ite_false, reduceIte, or_true, true_or, or_false, false_or, and_true, true_and, Bool.false_eq_true, reduceCtorEq]
      rfl
    · simp only [n1, gd_t, ob_s, ob2_s, ob4_s, sm_l, sm_r, ac_s, decide_true, decide_false, eq_self, ne_eq, not_false_eq_true, not_true_eq_false, if_true, if_false, ite_true, ite_false, reduceIte, or_true, true_or, or_false, false_or, and_true, true_and, Bool.false_eq_true, reduceCtorEq]
      rfl
    · simp only [n2, n3, gd_t, ob_s, ob2_s, ob4_s, sm_l, sm_r, ac_s, decide_true, decide_false, eq_self, ne_eq, not_false_eq_true, not_true_eq_false, if_true, if_false, ite_true, ite_false, reduceIte, or_true, true_or, or_false, false_or, and_true, true_and, Bool.false_eq_true, reduceCtorEq]
      rfl
    · by_cases p : nT f = 0
      · have : isIn 0 (nT f) = false := by rw [p]; decide
        simp only [n4, n5, n6, p, this, b2_f, gd_t, ob_s, ob2_s, ob4_s, sm_l, sm_r, ac_s, decide_true, decide_false, eq_self, ne_eq, not_false_eq_true, not_true_eq_false, if_true, if_false, ite_true, ite_false, reduceIte, or_true, true_or, or_false, false_or, and_true, true_and, Bool.false_eq_true, reduceCtorEq]
        rw [p] at this
        simp only [this, b2_f, gd_t, ob_s, ob2_s, ob4_s, sm_l, sm_r, ac_s, decide_true, decide_false, eq_self, ne_eq, not_false_eq_true, not_true_eq_false, if_true, if_false, ite_true, ite_false, reduceIte, or_true, true_or, or_false, false_or, and_true, true_and, Bool.false_eq_true, reduceCtorEq]
        rfl
      · have : isIn 0 (nT f) = true := isIn_nI (j := 0) (by omega) (by omega)
        simp only [n4, n5, n6, p, this, b2_t, one0, gd_t, ob_s, ob2_s, ob4_s, sm_l, sm_r, ac_s, decide_true, decide_false, eq_self, ne_eq, not_false_eq_true, not_true_eq_false, if_true, if_false, ite_true, ite_false, reduceIte, or_true, true_or, or_false, false_or, and_true, true_and, Bool.false_eq_true, reduceCtorEq]
        rfl
theorem x_day0 {w : Int32} (q : isIn w 4 = false) : F_X11_day 0 w h = some (.inr 3, h, 1, 6) := by
  unfold F_X11_day F_X11_day_b0 F_X11_day_b9
  rw [isIn_le (v := w) (n := 4) (m := 3) (by omega) rfl] at q
  by_cases w0 : w < 0
  · rw [if_pos w0]
  · rw [if_neg w0]
    by_cases w3 : 3 < w
    · rw [if_neg (Int32.not_le.mpr w3)]
    · rw [decide_eq_false w0, decide_eq_false w3] at q
      exact absurd q (by decide)
theorem j_day (g : GS h) (w : Int32) : JB h (F_L_day 0 w 72) (F_X12_day 59 w) := by
  obtain ⟨s, i, c, -⟩ := id g
  have g5 := iG5 i
  cases q : isIn w 4 with
  | false =>
    have e := x_day0 (h := h) q
    refine JB_t g (k := 1) (by decide) ?_ ⟨0, zI (tk h 1), ?_, tk_m, tk_z⟩
    · unfold F_L_day; rw [gd_d (k0 s), e, ob4_s]; rfl
    · exact (m_day s rfl i w).1 q
  | true =>
    obtain ⟨S0, T0, J, s0, tt0, Jo, e⟩ := x_day s i c w q
    have key : ∀ H : Hp, Sh H → zI H 60 = zI h 60 → ∃ J2, MN (zI H) J2 ∧ J2 59 0 = 0 ∧ F_X12_day 59 w H = some (dayS (zI h 60) (dyR (zI h 60) S0 T0 1000) w, wI H J2) := by
      intro H sH eH
      obtain ⟨J2, n2, z2, e2⟩ := (m_day sH eH i w).2 q
      refine ⟨J2, n2, z2, ?_⟩
      rw [e2]
      have := day_cg i (dy_cg i (S := seS (t0 H) (zI h 60)) (R := S0) (T := trT (zI h 60)) (U := T0) (fun g hg => by
        unfold seS
        rw [fill_in hg, s0 g (by omega)]) (fun t ht => by rw [tt0 t ht]; rfl)) w
      rw [this]
    generalize dayS (zI h 60) (dyR (zI h 60) S0 T0 1000) w = R at e key
    have e60 : zI (setL (wI h J) 72 0 R.toInt64) 60 = zI h 60 := Jo 60 (by omega)
    obtain ⟨J2, n2, z2, e2⟩ := key (setL (wI h J) 72 0 R.toInt64) s e60
    refine JB_w g (r := R) (J1 := J) (J2 := J2) ?_ e2 z2 (GS_w g (fun a k h1 h2 h3 h4 => (n2 a k h1).trans ?_))
    · unfold F_L_day; rw [gd_d (k0 s), e, ob4_s]; exact put_out (Sh_w s _) _
    · show J a k = zI h a k
      rw [Jo a (by unfold cNo at h2; omega)]
end DAYR
