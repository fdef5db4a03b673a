/-! THE HOUSE'S LINES: the class keeps a number -/
section KEEP
variable {h : Hp} {b : Nat → Int32} {n : Nat} {F : Nat → Int32} {J : Nat → Nat → Int32} {q i x : Nat} {t w : Int32}
theorem x_put (s : Sh h) (e0 : J 36 0 = nI i) (hi : i < 14) (hx : x < 4) (v : Int32) : F_X3_put 36 (nI x) v (cT h b n J F q t w) = some ((), cT h b n (up2 J 37 (4 * i + x) v) F q t w) := by
  obtain ⟨a1, a2, a3, a4⟩ := k36 s
  have n56 : ¬ Int32.ofNat 56 ≤ nI (4 * i + x) := nI_ge (b := 56) (by omega) (by omega)
  unfold F_X3_put F_X3_put_b0
  simp (disch := decide) only [cT_k, cT_R, cT_l, a1, a2, a3, a4, cT_a, e0, nl_4, nmul, nadd, show i * 4 + x = 4 * i + x by omega, if_neg n56, ix_t (show 4 * i + x < 56 by omega) (show 56 < 2147483648 by omega), ncl (show 4 * i + x < 2147483648 by omega), cT_seta, gd_t, ob_s, ob2_s, ob4_s, sm_l, sm_r, ac_s, decide_true, decide_false, eq_self, ne_eq, not_false_eq_true, not_true_eq_false, if_true, if_false, ite_true, ite_false, reduceIte, or_true, true_or, or_false, false_or, and_true, true_and, Bool.false_eq_true, reduceCtorEq]
  rfl
theorem x_begin (s : Sh h) (tc : TC b n J F) (hq : q ≤ n) (e0 : J 36 0 = nI i) (hi : i < 14) (v : Int32) : F_X3_begin 36 v 1 (cT h b n J F q t w) = some ((), cT h b n (up2 J 37 (4 * i) v) F (tN b n q) t w) := by
  obtain ⟨a1, a2, a3, a4⟩ := k36 s
  have e : F_X3_put 36 0 v (cT h b n J F q t w) = some ((), cT h b n (up2 J 37 (4 * i) v) F q t w) := x_put s e0 hi (x := 0) (by omega) v
  unfold F_X3_begin F_X3_begin_b0
  rw [e, ob2_s, cT_k, gd_d a1, x_nxt s (TC_up tc (by decide)) hq, ob2_s, cT_k, gd_d (k1 s)]
theorem x_keep1 (s : Sh h) (tc : TC b n J F) (hq : q ≤ n) (e0 : J 36 0 = nI i) (hi : i < 14) (hx : x < 4) {lo hh : Int32} (e : tOk b n q lo hh) : F_X3_keep 36 (nI x) lo hh 1 (cT h b n J F q t w) = some (1, cT h b n (up2 J 37 (4 * i + x) (nI (tVl b n q))) F (tN b n q) (nI (tVl b n q)) w) := by
  obtain ⟨a1, a2, a3, a4⟩ := k36 s
  unfold F_X3_keep F_X3_keep_b0
  rw [x_tN1 s tc hq e, ob2_s, cT_k, gd_d (k1 s), if_neg (by decide), cT_k, gd_d (k1 s), cT_5, x_put s e0 hi hx, ob2_s, cT_k, gd_d a1]
theorem x_keep0 (s : Sh h) (tc : TC b n J F) (hq : q ≤ n) {lo hh : Int32} (e : ¬ tOk b n q lo hh) (y : Int32) : F_X3_keep 36 y lo hh 1 (cT h b n J F q t w) = some (0, cT h b n J F q t (nI q)) := by
  unfold F_X3_keep F_X3_keep_b0
  rw [x_tN0 s tc hq e, ob2_s, cT_k, gd_d (k1 s), if_pos rfl]
end KEEP
