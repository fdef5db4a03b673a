/-! THE HOUSE'S LINES: the class tells its house -/
section TELLL
variable {h : Hp} {f : Nat → Int32} {J : Nat → Nat → Int32}
def MR (J : Nat → Nat → Int32) (f : Nat → Int32) : Prop := ∀ a k w, Mp a k w → J (3 + a) k = f w
theorem MR_u (m : MR J f) {a k w : Nat} (p : Mp a k w) (v : Int32) : MR (up2 J (3 + a) k v) (va_up f w v) := by
  intro a2 k2 w2 p2
  have q := mp_fun p p2
  by_cases e : w2 = w
  · obtain ⟨e1, e2⟩ := q.mpr e
    subst e e1 e2
    rw [up2_e, va_e]
  · rw [va_o _ _ e, ← m a2 k2 w2 p2]
    by_cases e1 : a2 = a
    · subst e1
      by_cases e2 : k2 = k
      · exact absurd (q.mp ⟨rfl, e2⟩) e
      · rw [up2_k _ _ _ _ _ e2]
    · rw [up2_a _ _ _ _ _ (by omega)]
/-- a house's line told, and all else stays -/
def TL (h : Hp) (J : Nat → Nat → Int32) (f : Nat → Int32) (k a c d : Nat) : Prop := ∃ J', F_X3_tellLine 3 (nI k) (nI a) (nI c) (nI d) (wI h J) = some ((), wI h J') ∧ HR J' 3 (tellW f k a c d) ∧ ∀ x, (x < 3 ∨ 36 ≤ x) → J' x = J x
theorem HR_MR (c : HR J 3 f) : MR J f := HR_mp c
theorem tl_3 (s : Sh h) (i : Inv f) (c : HR J 3 f) {a e d : Nat} (o : okRow f 3 a e d) : TL h J f 3 a e d := by
  refine ⟨up2 (up2 J 3 10 (nI a)) 3 11 (nI e), ?_, ?_, fun x hx => by rw [up2_a _ _ _ _ _ (by omega), up2_a _ _ _ _ _ (by omega)]⟩
  · unfold F_X3_tellLine F_X3_tellLine_b0
    rw [if_neg (by decide), if_neg (by decide), if_neg (by decide), if_pos (show nI 3 = (3 : Int32) from rfl), wI_k, gd_d (k3 s), sI_w, sI_w]
    rfl
  · show HR (up2 (up2 J (3 + 0) 10 (nI a)) (3 + 0) 11 (nI e)) 3 (va_up (va_up f 7 (nI a)) 6 (nI e))
    refine HR_ch c i (MR_u (a := 0) (MR_u (a := 0) (HR_MR c) (k := 10) (w := 7) (by unfold Mp; decide) _) (k := 11) (w := 6) (by unfold Mp; decide) _) ?_ ?_ (fun k h1 h2 => ?_) (fun k h1 h2 => ?_) (fun x h1 h2 => ?_) (fun g hg => ⟨?_, ?_⟩)
    · rw [va_o _ _ (by decide), va_o _ _ (by decide)]
    · rw [va_o _ _ (by decide), va_o _ _ (by decide)]
    · rw [va_o _ _ (by omega), va_o _ _ (by omega)]
    · rw [va_o _ _ (by omega), va_o _ _ (by omega)]
    · rw [up2_a _ _ _ _ _ (by omega), up2_a _ _ _ _ _ (by omega)]
    · rw [up2_a _ _ _ _ _ (by omega), up2_a _ _ _ _ _ (by omega)]
    · rw [up2_a _ _ _ _ _ (by omega), up2_a _ _ _ _ _ (by omega)]
/-- one number -/
theorem tl_w (i : Inv f) (c : HR J 3 f) {x k w : Nat} {v : Int32} (p : Mp x k w) (hx : x ≤ 4) (hw : w ≠ 1 ∧ w ≠ 4 ∧ w < 71) : HR (up2 J (3 + x) k v) 3 (va_up f w v) := by
  refine HR_ch c i (MR_u (HR_MR c) p v) ?_ ?_ (fun k h1 h2 => ?_) (fun k h1 h2 => ?_) (fun y h1 h2 => ?_) (fun g hg => ⟨?_, ?_⟩)
  · rw [va_o _ _ (by omega)]
  · rw [va_o _ _ (by omega)]
  · rw [va_o _ _ (by omega)]
  · rw [va_o _ _ (by omega)]
  · rw [up2_a _ _ _ _ _ (by omega)]
  · rw [up2_a _ _ _ _ _ (by omega)]
  · rw [up2_a _ _ _ _ _ (by omega)]
theorem tl_4 (s : Sh h) (i : Inv f) (c : HR J 3 f) {a e d : Nat} (o : okRow f 4 a e d) : TL h J f 4 a e d := by
  obtain ⟨o1, o2⟩ := o
  have r8 := iR8 i
  refine ⟨up2 J 7 a (nI e), ?_, ?_, fun x hx => by rw [up2_a _ _ _ _ _ (by omega)]⟩
  · unfold F_X3_tellLine F_X3_tellLine_b0
    rw [if_neg (by decide), if_neg (by decide), if_neg (by decide), if_neg (by decide), if_pos (show nI 4 = (4 : Int32) from rfl), wI_k, gd_d (k3 s), wI_R, r3_4 s, ob_s, wI_k, gd_d (k7 s), wI_l, l7 s, ix_t (by omega) (by omega), gd_t, ncl (by omega), sI_w]
    rfl
  · exact tl_w i c (x := 4) (k := a) (w := 14 + 4 * a) (by unfold Mp; omega) (by omega) (by omega)
theorem tl_5 (s : Sh h) (i : Inv f) (c : HR J 3 f) {a e d : Nat} : TL h J f 5 a e d := by
  refine ⟨up2 J 3 12 (nI a), ?_, ?_, fun x hx => by rw [up2_a _ _ _ _ _ (by omega)]⟩
  · unfold F_X3_tellLine F_X3_tellLine_b0
    rw [if_neg (by decide), if_neg (by decide), if_neg (by decide), if_neg (by decide), if_neg (by decide), if_pos (show nI 5 = (5 : Int32) from rfl), wI_k, gd_d (k3 s), sI_w]
    rfl
  · exact tl_w i c (x := 0) (k := 12) (w := 8) (by unfold Mp; decide) (by omega) (by omega)
theorem tl_6 (s : Sh h) (i : Inv f) (c : HR J 3 f) {a e d : Nat} : TL h J f 6 a e d := by
  refine ⟨up2 J 3 13 (nI a), ?_, ?_, fun x hx => by rw [up2_a _ _ _ _ _ (by omega)]⟩
  · unfold F_X3_tellLine F_X3_tellLine_b0
    rw [if_neg (by decide), if_neg (by decide), if_neg (by decide), if_neg (by decide), if_neg (by decide), if_neg (by decide), if_pos (show nI 6 = (6 : Int32) from rfl), wI_k, gd_d (k3 s), sI_w]
    rfl
  · exact tl_w i c (x := 0) (k := 13) (w := 9) (by unfold Mp; decide) (by omega) (by omega)
theorem tl_7 (s : Sh h) (i : Inv f) (c : HR J 3 f) {a e d : Nat} (o : okRow f 7 a e d) : TL h J f 7 a e d := by
  have o : a < nR f := o
  have r8 := iR8 i
  refine ⟨up2 J 4 a (0 - J 4 a), ?_, ?_, fun x hx => by rw [up2_a _ _ _ _ _ (by omega)]⟩
  · unfold F_X3_tellLine F_X3_tellLine_b0
    rw [if_neg (by decide), if_neg (by decide), if_neg (by decide), if_neg (by decide), if_neg (by decide), if_neg (by decide), if_neg (by decide), if_pos (show nI 7 = (7 : Int32) from rfl), wI_k, gd_d (k3 s), wI_R, r3_1 s, ob_s, ob_s, wI_k, gd_d (k4 s), wI_l, l4 s, ix_t (by omega) (by omega), gd_t, gd_d (k4 s), gd_t, ncl (by omega), wI_I, sI_w]
    rfl
  · have e := (c.2.1 a (by omega)).1
    show HR (up2 J (3 + 1) a (0 - J (3 + 1) a)) 3 (va_up f (11 + 4 * a) (0 - f (11 + 4 * a)))
    rw [e]
    exact tl_w i c (x := 1) (k := a) (w := 11 + 4 * a) (by unfold Mp; omega) (by omega) (by omega)
theorem tl_8 (s : Sh h) (i : Inv f) (c : HR J 3 f) {a e d : Nat} (o : okRow f 8 a e d) : TL h J f 8 a e d := by
  have o : a < nR f := o
  have r8 := iR8 i
  refine ⟨up2 J 5 a (0 - J 5 a), ?_, ?_, fun x hx => by rw [up2_a _ _ _ _ _ (by omega)]⟩
  · unfold F_X3_tellLine F_X3_tellLine_b0
    rw [if_neg (by decide), if_neg (by decide), if_neg (by decide), if_neg (by decide), if_neg (by decide), if_neg (by decide), if_neg (by decide), if_neg (by decide), if_pos (show nI 8 = (8 : Int32) from rfl), wI_k, gd_d (k3 s), wI_R, r3_2 s, ob_s, ob_s, wI_k, gd_d (k5 s), wI_l, l5 s, ix_t (by omega) (by omega), gd_t, gd_d (k5 s), gd_t, ncl (by omega), wI_I, sI_w]
    rfl
  · have e := (c.2.1 a (by omega)).2.1
    show HR (up2 J (3 + 2) a (0 - J (3 + 2) a)) 3 (va_up f (12 + 4 * a) (0 - f (12 + 4 * a)))
    rw [e]
    exact tl_w i c (x := 2) (k := a) (w := 12 + 4 * a) (by unfold Mp; omega) (by omega) (by omega)
end TELLL
