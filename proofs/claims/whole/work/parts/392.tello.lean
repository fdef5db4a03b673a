/-! THE HOUSE'S LINES: a guest is added; all lines are told -/
section TELLO
variable {h : Hp} {f : Nat → Int32} {J : Nat → Nat → Int32}
theorem MR_J (m : MR J f) {x k : Nat} {v : Int32} (hx : 17 < x) : MR (up2 J (3 + x) k v) f := fun a j w p => by
  have := (mp_bd p).1
  rw [up2_a _ _ _ _ _ (by omega)]
  exact m a j w p
theorem MR_f (m : MR J f) {w : Nat} {v : Int32} (hw : 147 ≤ w) : MR J (va_up f w v) := fun a j w2 p => by
  have := (mp_bd p).2.1
  rw [va_o _ _ (by omega)]
  exact m a j w2 p
theorem WR_0 {a c m : Nat → Int32} (h0 : a 0 = 0) (h3 : a 3 = 0) (hm : m 0 = 0) : WR a c m := by
  have e : wN m 0 = 0 := by unfold wN; rw [hm]; rfl
  refine ⟨⟨by rw [e, hm]; rfl, by omega, fun w hw => absurd hw (by omega)⟩, by rw [h0, hm], ?_, fun w hw => absurd hw (by omega)⟩
  unfold wEnd
  rw [if_pos e, h3]
  rfl
theorem tl_1 (s : Sh h) (i : Inv f) (c : HR J 3 f) {a e d : Nat} (o : okRow f 1 a e d) : TL h J f 1 a e d := by
  obtain ⟨o1, o2, o3, o4⟩ := o
  have b20 := iB20 i
  have e0 : J 3 5 = nI (nG f) := by rw [c.1.2.1]; exact iG i
  have h5 : ¬ (5 : Int32) ≤ nI (nG f) := nI_ge (b := 5) o1 (by omega)
  obtain ⟨w1, w2, -⟩ := HS_W (HS_3 s) o1
  have w1 : zR h 10 (nG f) = some (3 + (18 + 3 * nG f)) := by
    rw [w1]
    congr 1
    omega
  have w2 : kd h (3 + (18 + 3 * nG f)) = 9 := by
    rw [show 3 + (18 + 3 * nG f) = 3 + 18 + 3 * nG f by omega]
    exact w2
  obtain ⟨-, k10, l10, -, -, -⟩ := HS_k (HS_3 s)
  have k10 : kd h 10 = 15 := k10
  have l10 : zl h 10 = 5 := l10
  have n3 : 3 ≠ 3 + (18 + 3 * nG f) := by omega
  refine ⟨up2 (up2 (up2 (up2 (up2 J (3 + 5) (nG f) (nI a)) (3 + 6) (nG f) (nI e)) (3 + (18 + 3 * nG f)) 0 0) (3 + (18 + 3 * nG f)) 3 0) (3 + 0) 5 (nI (nG f + 1)), ?_, ?_, fun x hx => by rw [up2_a _ _ _ _ _ (by omega), up2_a _ _ _ _ _ (by omega), up2_a _ _ _ _ _ (by omega), up2_a _ _ _ _ _ (by omega), up2_a _ _ _ _ _ (by omega)]⟩
  · unfold F_X3_tellLine F_X3_tellLine_b0 F_X2_addGuest F_X2_addGuest_b0
    rw [if_neg (by decide), if_pos (show nI 1 = (1 : Int32) from rfl)]
    simp (disch := first | decide | exact n3) only [wI_k, wI_R, wI_l, wI_I, sI_w, k3 s, r3_6 s, r3_7 s, r3_8 s, k8 s, k9 s, l8 s, l9 s, k10, l10, w1, w2, up2_a, e0, if_neg h5, ix_t o1 (show 5 < 2147483648 by omega), ncl (show nG f < 2147483648 by omega), nS_1, gd_t, ob_s, ob2_s, ob4_s, sm_l, sm_r, ac_s, decide_true, decide_false, eq_self, ne_eq, not_false_eq_true, not_true_eq_false, if_true, if_false, ite_true, ite_false, reduceIte, or_true, true_or, or_false, false_or, and_true, true_and, Bool.false_eq_true, reduceCtorEq]
    rfl
  · show HR _ 3 (va_up (va_up (va_up (va_up f (43 + 2 * nG f) (nI a)) (44 + 2 * nG f) (nI e)) (147 + 817 * nG f) 0) 1 (nI (nG f + 1)))
    have mr := MR_u (MR_J (k := 3) (v := 0) (MR_J (k := 0) (v := 0) (MR_f (w := 147 + 817 * nG f) (v := 0) (MR_u (MR_u (HR_MR c) (mp_G (a := 5) (by omega) (by omega) o1 (show 43 + 2 * nG f = 38 + 5 + 2 * nG f by omega)) (nI a)) (mp_G (a := 6) (by omega) (by omega) o1 (show 44 + 2 * nG f = 38 + 6 + 2 * nG f by omega)) (nI e)) (by omega)) (show 17 < 18 + 3 * nG f by omega)) (show 17 < 18 + 3 * nG f by omega)) (show Mp 0 5 1 by unfold Mp; decide) (nI (nG f + 1))
    have eo : ∀ k, k ≠ 1 → (k < 43 + 2 * nG f ∨ 44 + 2 * nG f < k) → k ≠ 147 + 817 * nG f → va_up (va_up (va_up (va_up f (43 + 2 * nG f) (nI a)) (44 + 2 * nG f) (nI e)) (147 + 817 * nG f) 0) 1 (nI (nG f + 1)) k = f k := fun k h1 h2 h3 => by
      rw [va_o _ _ h1, va_o _ _ h3, va_o _ _ (by omega), va_o _ _ (by omega)]
    have e1 : va_up (va_up (va_up (va_up f (43 + 2 * nG f) (nI a)) (44 + 2 * nG f) (nI e)) (147 + 817 * nG f) 0) 1 (nI (nG f + 1)) 1 = nI (nG f + 1) := va_e _ _ _
    have ew : va_up (va_up (va_up (va_up f (43 + 2 * nG f) (nI a)) (44 + 2 * nG f) (nI e)) (147 + 817 * nG f) 0) 1 (nI (nG f + 1)) (147 + 817 * nG f) = 0 := by rw [va_o _ _ (by omega), va_e]
    have jo : ∀ x, x ≠ 3 → x ≠ 8 → x ≠ 9 → x ≠ 3 + (18 + 3 * nG f) → up2 (up2 (up2 (up2 (up2 J (3 + 5) (nG f) (nI a)) (3 + 6) (nG f) (nI e)) (3 + (18 + 3 * nG f)) 0 0) (3 + (18 + 3 * nG f)) 3 0) (3 + 0) 5 (nI (nG f + 1)) x = J x := fun x h1 h2 h3 h4 => by
      rw [up2_a _ _ _ _ _ (by omega), up2_a _ _ _ _ _ (by omega), up2_a _ _ _ _ _ (by omega), up2_a _ _ _ _ _ (by omega), up2_a _ _ _ _ _ (by omega)]
    have j0 : up2 (up2 (up2 (up2 (up2 J (3 + 5) (nG f) (nI a)) (3 + 6) (nG f) (nI e)) (3 + (18 + 3 * nG f)) 0 0) (3 + (18 + 3 * nG f)) 3 0) (3 + 0) 5 (nI (nG f + 1)) (3 + (18 + 3 * nG f)) 0 = 0 := by
      rw [up2_a _ _ _ _ _ (by omega), up2_k _ _ _ _ _ (by decide), up2_e]
    have j3 : up2 (up2 (up2 (up2 (up2 J (3 + 5) (nG f) (nI a)) (3 + 6) (nG f) (nI e)) (3 + (18 + 3 * nG f)) 0 0) (3 + (18 + 3 * nG f)) 3 0) (3 + 0) 5 (nI (nG f + 1)) (3 + (18 + 3 * nG f)) 3 = 0 := by
      rw [up2_a _ _ _ _ _ (by omega), up2_e]
    generalize up2 (up2 (up2 (up2 (up2 J (3 + 5) (nG f) (nI a)) (3 + 6) (nG f) (nI e)) (3 + (18 + 3 * nG f)) 0 0) (3 + (18 + 3 * nG f)) 3 0) (3 + 0) 5 (nI (nG f + 1)) = J2 at mr jo j0 j3
    generalize va_up (va_up (va_up (va_up f (43 + 2 * nG f) (nI a)) (44 + 2 * nG f) (nI e)) (147 + 817 * nG f) 0) 1 (nI (nG f + 1)) = f2 at mr eo e1 ew
    have eG : nG f2 = nG f + 1 := by unfold nG; rw [e1, ncl (by omega)]; rfl
    have eB : nB f2 = nB f := by unfold nB; rw [eo 4 (by omega) (by omega) (by omega)]
    refine HR_of mr (fun b hb => ?_) (fun g hg => ?_)
    · rw [eB] at hb
      rw [jo _ (by omega) (by omega) (by omega) (by omega), jo _ (by omega) (by omega) (by omega) (by omega), jo _ (by omega) (by omega) (by omega) (by omega), eo _ (by omega) (by omega) (by omega), eo _ (by omega) (by omega) (by omega), eo _ (by omega) (by omega) (by omega)]
      exact HR_bk c b hb
    · rw [eG] at hg
      by_cases q : g = nG f
      · subst q
        rw [show 3 + 18 + 3 * nG f = 3 + (18 + 3 * nG f) by omega]
        exact WR_0 j0 j3 ew
      · rw [jo _ (by omega) (by omega) (by omega) (by omega), jo _ (by omega) (by omega) (by omega) (by omega)]
        exact WR_congr rfl rfl (fun _ _ => rfl) (fun k hk => eo _ (by omega) (by omega) (by omega)) (HR_ws c g (by omega))
theorem tl_all (s : Sh h) (i : Inv f) (c : HR J 3 f) {k a e d : Nat} (o : okRow f k a e d) : TL h J f k a e d := by
  have hk : k = 0 ∨ k = 1 ∨ k = 2 ∨ k = 3 ∨ k = 4 ∨ k = 5 ∨ k = 6 ∨ k = 7 ∨ k = 8 ∨ 9 ≤ k := by omega
  rcases hk with rfl | rfl | rfl | rfl | rfl | rfl | rfl | rfl | rfl | hk
  · exact tl_0 s i c o
  · exact tl_1 s i c o
  · exact tl_2 s i c o
  · exact tl_3 s i c o
  · exact tl_4 s i c o
  · exact tl_5 s i c
  · exact tl_6 s i c
  · exact tl_7 s i c o
  · exact tl_8 s i c o
  · obtain ⟨k, rfl⟩ : ∃ x, k = x + 9 := ⟨k - 9, by omega⟩
    exact absurd o (by
      show ¬ False
      exact id)
end TELLO
