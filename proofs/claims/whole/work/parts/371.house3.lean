/-! A HOUSE IS MADE: its shape -/
section MAKE3
variable {h : Hp}
/-- from h to h2 cells are new, and of the old ones those of P may point elsewhere -/
def fP (h h2 : Hp) (P : Nat → Prop) : Prop := zN h ≤ zN h2 ∧ (∀ b, b < zN h → kd h2 b = kd h b ∧ zl h2 b = zl h b) ∧ ∀ b, b < zN h → ¬ P b → zR h2 b = zR h b ∧ zI h2 b = zI h b
theorem fP_of {h h2 : Hp} {a m : Nat} {P : Nat → Prop} (x : fR h h2 a m) (p : a < zN h → P a) : fP h h2 P := by
  obtain ⟨x1, x2, x3⟩ := x
  exact ⟨by omega, x2, fun b hb q => x3 b hb (fun e => by subst e; exact q (p hb))⟩
theorem fP_t {h h2 h3 : Hp} {P : Nat → Prop} (x : fP h h2 P) (y : fP h2 h3 P) : fP h h3 P := by
  obtain ⟨x1, x2, x3⟩ := x
  obtain ⟨y1, y2, y3⟩ := y
  refine ⟨by omega, fun b hb => ?_, fun b hb q => ?_⟩
  · exact ⟨(y2 b (by omega)).1.trans (x2 b hb).1, (y2 b (by omega)).2.trans (x2 b hb).2⟩
  · exact ⟨(y3 b (by omega) q).1.trans (x3 b hb q).1, (y3 b (by omega) q).2.trans (x3 b hb q).2⟩
theorem fP_m {h h2 : Hp} {P Q : Nat → Prop} (x : fP h h2 P) (i : ∀ b, P b → Q b) : fP h h2 Q := ⟨x.1, x.2.1, fun b hb q => x.2.2 b hb (fun z => q (i b z))⟩
theorem fP_k {h h2 : Hp} {P : Nat → Prop} {b k n : Nat} (x : fP h h2 P) (hb : b < zN h) (q : kd h b = k ∧ zl h b = n) : kd h2 b = k ∧ zl h2 b = n := ⟨(x.2.1 b hb).1.trans q.1, (x.2.1 b hb).2.trans q.2⟩
theorem hA_N {K : Nat} (hN : zN h = K + 1) : zN (hA h K) = K + 8 := by
  show zN h + 7 = K + 8
  omega
theorem hA_f {K : Nat} : fR h (hA h K) K 7 := by
  unfold hA
  exact fR_t (fR_t (fR_t (fR_t (fR_t (fR_t (fR_t (fR_t (fR_sI h K 0 0) (arr_f _ K 1 13 8)) (arr_f _ K 2 13 8)) (arr_f _ K 3 13 8)) (arr_f _ K 4 13 8)) (fR_sI _ K 5 0)) (arr_f _ K 6 13 5)) (arr_f _ K 7 13 5)) (arr_f _ K 8 15 5)
theorem hA_r {K : Nat} (hN : zN h = K + 1) : zR (hA h K) K 1 = some (K + 1) ∧ zR (hA h K) K 2 = some (K + 2) ∧ zR (hA h K) K 3 = some (K + 3) ∧ zR (hA h K) K 4 = some (K + 4) ∧ zR (hA h K) K 6 = some (K + 5) ∧ zR (hA h K) K 7 = some (K + 6) ∧ zR (hA h K) K 8 = some (K + 7) := by
  have g0 : zN (setI h K 0 0) = K + 1 := hN
  have g1 : zN (arr (setI h K 0 0) K 1 13 8) = K + 2 := by show zN h + 1 = _; omega
  have g2 : zN (arr (arr (setI h K 0 0) K 1 13 8) K 2 13 8) = K + 3 := by show zN h + 2 = _; omega
  have g3 : zN (arr (arr (arr (setI h K 0 0) K 1 13 8) K 2 13 8) K 3 13 8) = K + 4 := by show zN h + 3 = _; omega
  have g5 : zN (setI (arr (arr (arr (arr (setI h K 0 0) K 1 13 8) K 2 13 8) K 3 13 8) K 4 13 8) K 5 0) = K + 5 := by show zN h + 4 = _; omega
  have g6 : zN (arr (setI (arr (arr (arr (arr (setI h K 0 0) K 1 13 8) K 2 13 8) K 3 13 8) K 4 13 8) K 5 0) K 6 13 5) = K + 6 := by show zN h + 5 = _; omega
  have g7 : zN (arr (arr (setI (arr (arr (arr (arr (setI h K 0 0) K 1 13 8) K 2 13 8) K 3 13 8) K 4 13 8) K 5 0) K 6 13 5) K 7 13 5) = K + 7 := by show zN h + 6 = _; omega
  have q0 : K < zN (setI h K 0 0) := by omega
  have q1 : K < zN (arr (setI h K 0 0) K 1 13 8) := by omega
  have q2 : K < zN (arr (arr (setI h K 0 0) K 1 13 8) K 2 13 8) := by omega
  have q3 : K < zN (arr (arr (arr (setI h K 0 0) K 1 13 8) K 2 13 8) K 3 13 8) := by omega
  have q5 : K < zN (setI (arr (arr (arr (arr (setI h K 0 0) K 1 13 8) K 2 13 8) K 3 13 8) K 4 13 8) K 5 0) := by omega
  have q6 : K < zN (arr (setI (arr (arr (arr (arr (setI h K 0 0) K 1 13 8) K 2 13 8) K 3 13 8) K 4 13 8) K 5 0) K 6 13 5) := by omega
  have q7 : K < zN (arr (arr (setI (arr (arr (arr (arr (setI h K 0 0) K 1 13 8) K 2 13 8) K 3 13 8) K 4 13 8) K 5 0) K 6 13 5) K 7 13 5) := by omega
  unfold hA
  simp +decide only [arr_r q7, arr_r q6, arr_r q5, zR_setI, arr_r q3, arr_r q2, arr_r q1, arr_r q0, g0, g1, g2, g3, g5, g6, g7, gd_t, ob_s, ob2_s, ob4_s, sm_l, sm_r, ac_s, decide_true, decide_false, eq_self, ne_eq, not_false_eq_true, not_true_eq_false, if_true, if_false, ite_true, ite_false, reduceIte, or_true, true_or, or_false, false_or, and_true, true_and, Bool.false_eq_true, reduceCtorEq]
theorem hA_k {K : Nat} (hN : zN h = K + 1) : (kd (hA h K) (K + 1) = 13 ∧ zl (hA h K) (K + 1) = 8) ∧ (kd (hA h K) (K + 2) = 13 ∧ zl (hA h K) (K + 2) = 8) ∧ (kd (hA h K) (K + 3) = 13 ∧ zl (hA h K) (K + 3) = 8) ∧ (kd (hA h K) (K + 4) = 13 ∧ zl (hA h K) (K + 4) = 8) ∧ (kd (hA h K) (K + 5) = 13 ∧ zl (hA h K) (K + 5) = 5) ∧ (kd (hA h K) (K + 6) = 13 ∧ zl (hA h K) (K + 6) = 5) ∧ (kd (hA h K) (K + 7) = 15 ∧ zl (hA h K) (K + 7) = 5) := by
  have n0 : zN (setI h K 0 0) = K + 1 := by show zN h + 0 = _; omega
  have k1 := arr_k (h := setI h K 0 0) (K := K) (by omega) 1 13 8
  rw [n0] at k1
  have n1 : zN (arr (setI h K 0 0) K 1 13 8) = K + 2 := by show zN h + 1 = _; omega
  have k2 := arr_k (h := arr (setI h K 0 0) K 1 13 8) (K := K) (by omega) 2 13 8
  rw [n1] at k2
  have n2 : zN (arr (arr (setI h K 0 0) K 1 13 8) K 2 13 8) = K + 3 := by show zN h + 2 = _; omega
  have k3 := arr_k (h := arr (arr (setI h K 0 0) K 1 13 8) K 2 13 8) (K := K) (by omega) 3 13 8
  rw [n2] at k3
  have n3 : zN (arr (arr (arr (setI h K 0 0) K 1 13 8) K 2 13 8) K 3 13 8) = K + 4 := by show zN h + 3 = _; omega
  have k4 := arr_k (h := arr (arr (arr (setI h K 0 0) K 1 13 8) K 2 13 8) K 3 13 8) (K := K) (by omega) 4 13 8
  rw [n3] at k4
  have n5 : zN (setI (arr (arr (arr (arr (setI h K 0 0) K 1 13 8) K 2 13 8) K 3 13 8) K 4 13 8) K 5 0) = K + 5 := by show zN h + 4 = _; omega
  have k6 := arr_k (h := setI (arr (arr (arr (arr (setI h K 0 0) K 1 13 8) K 2 13 8) K 3 13 8) K 4 13 8) K 5 0) (K := K) (by omega) 6 13 5
  rw [n5] at k6
  have n6 : zN (arr (setI (arr (arr (arr (arr (setI h K 0 0) K 1 13 8) K 2 13 8) K 3 13 8) K 4 13 8) K 5 0) K 6 13 5) = K + 6 := by show zN h + 5 = _; omega
  have k7 := arr_k (h := arr (setI (arr (arr (arr (arr (setI h K 0 0) K 1 13 8) K 2 13 8) K 3 13 8) K 4 13 8) K 5 0) K 6 13 5) (K := K) (by omega) 7 13 5
  rw [n6] at k7
  have n7 : zN (arr (arr (setI (arr (arr (arr (arr (setI h K 0 0) K 1 13 8) K 2 13 8) K 3 13 8) K 4 13 8) K 5 0) K 6 13 5) K 7 13 5) = K + 7 := by show zN h + 6 = _; omega
  have k8 := arr_k (h := arr (arr (setI (arr (arr (arr (arr (setI h K 0 0) K 1 13 8) K 2 13 8) K 3 13 8) K 4 13 8) K 5 0) K 6 13 5) K 7 13 5) (K := K) (by omega) 8 15 5
  rw [n7] at k8
  have f7 : fR (arr (arr (setI (arr (arr (arr (arr (setI h K 0 0) K 1 13 8) K 2 13 8) K 3 13 8) K 4 13 8) K 5 0) K 6 13 5) K 7 13 5) (hA h K) K _ := arr_f _ K 8 15 5
  have f6 : fR (arr (setI (arr (arr (arr (arr (setI h K 0 0) K 1 13 8) K 2 13 8) K 3 13 8) K 4 13 8) K 5 0) K 6 13 5) (hA h K) K _ := fR_t (arr_f _ K 7 13 5) f7
  have f5 : fR (setI (arr (arr (arr (arr (setI h K 0 0) K 1 13 8) K 2 13 8) K 3 13 8) K 4 13 8) K 5 0) (hA h K) K _ := fR_t (arr_f _ K 6 13 5) f6
  have f4 : fR (arr (arr (arr (arr (setI h K 0 0) K 1 13 8) K 2 13 8) K 3 13 8) K 4 13 8) (hA h K) K _ := fR_t (fR_sI _ K 5 0) f5
  have f3 : fR (arr (arr (arr (setI h K 0 0) K 1 13 8) K 2 13 8) K 3 13 8) (hA h K) K _ := fR_t (arr_f _ K 4 13 8) f4
  have f2 : fR (arr (arr (setI h K 0 0) K 1 13 8) K 2 13 8) (hA h K) K _ := fR_t (arr_f _ K 3 13 8) f3
  have f1 : fR (arr (setI h K 0 0) K 1 13 8) (hA h K) K _ := fR_t (arr_f _ K 2 13 8) f2
  have m1 : K + 1 < zN (arr (setI h K 0 0) K 1 13 8) := by show _ < zN h + 1; omega
  have m2 : K + 2 < zN (arr (arr (setI h K 0 0) K 1 13 8) K 2 13 8) := by show _ < zN h + 2; omega
  have m3 : K + 3 < zN (arr (arr (arr (setI h K 0 0) K 1 13 8) K 2 13 8) K 3 13 8) := by show _ < zN h + 3; omega
  have m4 : K + 4 < zN (arr (arr (arr (arr (setI h K 0 0) K 1 13 8) K 2 13 8) K 3 13 8) K 4 13 8) := by show _ < zN h + 4; omega
  have m6 : K + 5 < zN (arr (setI (arr (arr (arr (arr (setI h K 0 0) K 1 13 8) K 2 13 8) K 3 13 8) K 4 13 8) K 5 0) K 6 13 5) := by show _ < zN h + 5; omega
  have m7 : K + 6 < zN (arr (arr (setI (arr (arr (arr (arr (setI h K 0 0) K 1 13 8) K 2 13 8) K 3 13 8) K 4 13 8) K 5 0) K 6 13 5) K 7 13 5) := by show _ < zN h + 6; omega
  exact ⟨fR_k f1 m1 k1, fR_k f2 m2 k2, fR_k f3 m3 k3, fR_k f4 m4 k4, fR_k f6 m6 k6, fR_k f7 m7 k7, k8⟩
end MAKE3
