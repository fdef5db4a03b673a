/-! THE HOUSE'S LINES: a room and a trunk are added -/
section TELLN
variable {h : Hp} {f : Nat → Int32} {J : Nat → Nat → Int32}
theorem tl_0 (s : Sh h) (i : Inv f) (c : HR J 3 f) {a e d : Nat} (o : okRow f 0 a e d) : TL h J f 0 a e d := by
  obtain ⟨o1, o2, o3, o4, o5⟩ := o
  have e0 : J 3 0 = nI (nR f) := by rw [c.1.1]; exact iR i
  have h8 : ¬ (8 : Int32) ≤ nI (nR f) := nI_ge (b := 8) o1 (by omega)
  refine ⟨up2 (up2 (up2 (up2 (up2 J (3 + 1) (nR f) (nI a)) (3 + 2) (nR f) (nI e)) (3 + 3) (nR f) (nI d)) (3 + 4) (nR f) 0) (3 + 0) 0 (nI (nR f + 1)), ?_, ?_, fun x hx => by rw [up2_a _ _ _ _ _ (by omega), up2_a _ _ _ _ _ (by omega), up2_a _ _ _ _ _ (by omega), up2_a _ _ _ _ _ (by omega), up2_a _ _ _ _ _ (by omega)]⟩
  · unfold F_X3_tellLine F_X3_tellLine_b0 F_X2_addRoom F_X2_addRoom_b0
    rw [if_pos (show nI 0 = (0 : Int32) from rfl)]
    simp (disch := decide) only [wI_k, wI_R, wI_l, wI_I, sI_w, k3 s, r3_1 s, r3_2 s, r3_3 s, r3_4 s, k4 s, k5 s, k6 s, k7 s, l4 s, l5 s, l6 s, l7 s, up2_a, e0, if_neg h8, ix_t o1 (show 8 < 2147483648 by omega), ncl (show nR f < 2147483648 by omega), nS_1, gd_t, ob_s, ob2_s, ob4_s, sm_l, sm_r, ac_s, decide_true, decide_false, eq_self, ne_eq, not_false_eq_true, not_true_eq_false, if_true, if_false, ite_true, ite_false, reduceIte, or_true, true_or, or_false, false_or, and_true, true_and, Bool.false_eq_true, reduceCtorEq]
    rfl
  · show HR _ 3 (va_up (va_up (va_up (va_up (va_up f (11 + 4 * nR f) (nI a)) (12 + 4 * nR f) (nI e)) (13 + 4 * nR f) (nI d)) (14 + 4 * nR f) 0) 0 (nI (nR f + 1)))
    refine HR_ch c i (MR_u (MR_u (MR_u (MR_u (MR_u (HR_MR c) (mp_R (by omega) (by omega) o1 (by omega)) _) (mp_R (by omega) (by omega) o1 (by omega)) _) (mp_R (by omega) (by omega) o1 (by omega)) _) (mp_R (by omega) (by omega) o1 (by omega)) _) (show Mp 0 0 0 by unfold Mp; decide) _) ?_ ?_ (fun k h1 h2 => ?_) (fun k h1 h2 => ?_) (fun x h1 h2 => ?_) (fun g hg => ⟨?_, ?_⟩)
    · rw [va_o _ _ (by omega), va_o _ _ (by omega), va_o _ _ (by omega), va_o _ _ (by omega), va_o _ _ (by omega)]
    · rw [va_o _ _ (by omega), va_o _ _ (by omega), va_o _ _ (by omega), va_o _ _ (by omega), va_o _ _ (by omega)]
    · rw [va_o _ _ (by omega), va_o _ _ (by omega), va_o _ _ (by omega), va_o _ _ (by omega), va_o _ _ (by omega)]
    · rw [va_o _ _ (by omega), va_o _ _ (by omega), va_o _ _ (by omega), va_o _ _ (by omega), va_o _ _ (by omega)]
    · rw [up2_a _ _ _ _ _ (by omega), up2_a _ _ _ _ _ (by omega), up2_a _ _ _ _ _ (by omega), up2_a _ _ _ _ _ (by omega), up2_a _ _ _ _ _ (by omega)]
    · rw [up2_a _ _ _ _ _ (by omega), up2_a _ _ _ _ _ (by omega), up2_a _ _ _ _ _ (by omega), up2_a _ _ _ _ _ (by omega), up2_a _ _ _ _ _ (by omega)]
    · rw [up2_a _ _ _ _ _ (by omega), up2_a _ _ _ _ _ (by omega), up2_a _ _ _ _ _ (by omega), up2_a _ _ _ _ _ (by omega), up2_a _ _ _ _ _ (by omega)]
theorem tl_2 (s : Sh h) (i : Inv f) (c : HR J 3 f) {a e d : Nat} (o : okRow f 2 a e d) : TL h J f 2 a e d := by
  obtain ⟨o1, o2, o3, o4⟩ := o
  have e0 : J 11 0 = nI (nT f) := (HR_mp c 8 0 2 (by unfold Mp; decide)).trans (iT i)
  have h6 : ¬ (6 : Int32) ≤ nI (nT f) := nI_ge (b := 6) o1 (by omega)
  refine ⟨up2 (up2 (up2 (up2 J (3 + 9) (nT f) (nI a)) (3 + 10) (nT f) (nI e)) (3 + 11) (nT f) (nI d)) (3 + 8) 0 (nI (nT f + 1)), ?_, ?_, fun x hx => by rw [up2_a _ _ _ _ _ (by omega), up2_a _ _ _ _ _ (by omega), up2_a _ _ _ _ _ (by omega), up2_a _ _ _ _ _ (by omega)]⟩
  · unfold F_X3_tellLine F_X3_tellLine_b0 F_X8_add F_X8_add_b0
    rw [if_neg (by decide), if_neg (by decide), if_pos (show nI 2 = (2 : Int32) from rfl)]
    simp (disch := decide) only [wI_k, wI_R, wI_l, wI_I, sI_w, k3 s, r3_9 s, k11 s, r11_1 s, r11_2 s, r11_3 s, k12 s, k13 s, k14 s, l12 s, l13 s, l14 s, up2_a, e0, if_neg h6, ix_t o1 (show 6 < 2147483648 by omega), ncl (show nT f < 2147483648 by omega), nS_1, gd_t, ob_s, ob2_s, ob4_s, sm_l, sm_r, ac_s, decide_true, decide_false, eq_self, ne_eq, not_false_eq_true, not_true_eq_false, if_true, if_false, ite_true, ite_false, reduceIte, or_true, true_or, or_false, false_or, and_true, true_and, Bool.false_eq_true, reduceCtorEq]
    rfl
  · show HR _ 3 (va_up (va_up (va_up (va_up f (53 + 3 * nT f) (nI a)) (54 + 3 * nT f) (nI e)) (55 + 3 * nT f) (nI d)) 2 (nI (nT f + 1)))
    refine HR_ch c i (MR_u (MR_u (MR_u (MR_u (HR_MR c) (mp_T (by omega) (by omega) o1 (by omega)) _) (mp_T (by omega) (by omega) o1 (by omega)) _) (mp_T (by omega) (by omega) o1 (by omega)) _) (show Mp 8 0 2 by unfold Mp; decide) _) ?_ ?_ (fun k h1 h2 => ?_) (fun k h1 h2 => ?_) (fun x h1 h2 => ?_) (fun g hg => ⟨?_, ?_⟩)
    · rw [va_o _ _ (by omega), va_o _ _ (by omega), va_o _ _ (by omega), va_o _ _ (by omega)]
    · rw [va_o _ _ (by omega), va_o _ _ (by omega), va_o _ _ (by omega), va_o _ _ (by omega)]
    · rw [va_o _ _ (by omega), va_o _ _ (by omega), va_o _ _ (by omega), va_o _ _ (by omega)]
    · rw [va_o _ _ (by omega), va_o _ _ (by omega), va_o _ _ (by omega), va_o _ _ (by omega)]
    · rw [up2_a _ _ _ _ _ (by omega), up2_a _ _ _ _ _ (by omega), up2_a _ _ _ _ _ (by omega), up2_a _ _ _ _ _ (by omega)]
    · rw [up2_a _ _ _ _ _ (by omega), up2_a _ _ _ _ _ (by omega), up2_a _ _ _ _ _ (by omega), up2_a _ _ _ _ _ (by omega)]
    · rw [up2_a _ _ _ _ _ (by omega), up2_a _ _ _ _ _ (by omega), up2_a _ _ _ _ _ (by omega), up2_a _ _ _ _ _ (by omega)]
end TELLN
