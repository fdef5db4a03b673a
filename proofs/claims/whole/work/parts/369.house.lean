/-! A HOUSE IS MADE -/
section MAKE
variable {h : Hp}
theorem kd_al (h : Hp) (k n a : Nat) : kd (alloc h k n) a = if a = zN h then k else kd h a := by
  unfold kd alloc
  show (if a < zN h + 1 then (va_up (zK h) (zN h) (k, n) a).1 else 99) = _
  by_cases e : a = zN h
  · subst e
    rw [if_pos (by omega), if_pos rfl, va_e]
  · rw [if_neg e, va_n _ _ _ _ e]
    by_cases q : a < zN h
    · rw [if_pos (by omega), if_pos q]
    · rw [if_neg (by omega), if_neg q]
theorem zl_al (h : Hp) (k n a : Nat) : zl (alloc h k n) a = if a = zN h then n else zl h a := by
  unfold zl alloc
  show (va_up (zK h) (zN h) (k, n) a).2 = _
  by_cases e : a = zN h
  · subst e
    rw [if_pos rfl, va_e]
  · rw [if_neg e, va_n _ _ _ _ e]
theorem zR_al (h : Hp) (k n a j : Nat) : zR (alloc h k n) a j = if a = zN h then none else zR h a j := by
  show va_up (zR h) (zN h) (fun _ => none) a j = _
  by_cases e : a = zN h
  · subst e
    rw [if_pos rfl, va_e]
  · rw [if_neg e, va_n _ _ _ _ e]
theorem zI_al (h : Hp) (k n a : Nat) : zI (alloc h k n) a = if a = zN h then (fun _ => 0) else zI h a := by
  show va_up (zI h) (zN h) (fun _ => 0) a = _
  by_cases e : a = zN h
  · subst e
    rw [if_pos rfl, va_e]
  · rw [if_neg e, va_n _ _ _ _ e]
theorem zN_al (h : Hp) (k n : Nat) : zN (alloc h k n) = zN h + 1 := rfl
theorem zN_sI (h : Hp) (a k : Nat) (v : Int32) : zN (setI h a k v) = zN h := rfl
theorem zN_sR (h : Hp) (a k : Nat) (v : Option Nat) : zN (setR h a k v) = zN h := rfl
/-- from h to h2 m cells are new, and of the old ones only a has changed -/
def fR (h h2 : Hp) (a m : Nat) : Prop := zN h2 = zN h + m ∧ (∀ b, b < zN h → kd h2 b = kd h b ∧ zl h2 b = zl h b) ∧ ∀ b, b < zN h → b ≠ a → zR h2 b = zR h b ∧ zI h2 b = zI h b
theorem fR_al (h : Hp) (k n a : Nat) : fR h (alloc h k n) a 1 := ⟨rfl, fun b hb => ⟨by rw [kd_al, if_neg (by omega)], by rw [zl_al, if_neg (by omega)]⟩, fun b hb _ => ⟨by funext j; rw [zR_al, if_neg (by omega)], by rw [zI_al, if_neg (by omega)]⟩⟩
theorem fR_sR (h : Hp) (a j : Nat) (v : Option Nat) : fR h (setR h a j v) a 0 := ⟨rfl, fun b hb => ⟨rfl, rfl⟩, fun b hb q => ⟨by funext i; rw [zR_setR, if_neg q], rfl⟩⟩
theorem fR_sI (h : Hp) (a j : Nat) (v : Int32) : fR h (setI h a j v) a 0 := ⟨rfl, fun b hb => ⟨rfl, rfl⟩, fun b hb q => ⟨rfl, su_n q⟩⟩
theorem fR_t {h h2 h3 : Hp} {a m n : Nat} (x : fR h h2 a m) (y : fR h2 h3 a n) : fR h h3 a (m + n) := by
  obtain ⟨x1, x2, x3⟩ := x
  obtain ⟨y1, y2, y3⟩ := y
  refine ⟨by omega, fun b hb => ?_, fun b hb q => ?_⟩
  · have := y2 b (by omega)
    have := x2 b hb
    exact ⟨by omega, by omega⟩
  · have p := y3 b (by omega) q
    have r := x3 b hb q
    exact ⟨p.1.trans r.1, p.2.trans r.2⟩
/-- the same with a new one, at the end of h, as what changes -/
theorem fR_n {h h2 h3 : Hp} {a m n : Nat} (x : fR h h2 a m) (y : fR h2 h3 (zN h) n) : fR h h3 a (m + n) := by
  obtain ⟨x1, x2, x3⟩ := x
  obtain ⟨y1, y2, y3⟩ := y
  refine ⟨by omega, fun b hb => ?_, fun b hb q => ?_⟩
  · have := y2 b (by omega)
    have := x2 b hb
    exact ⟨by omega, by omega⟩
  · have p := y3 b (by omega) (by omega)
    have r := x3 b hb q
    exact ⟨p.1.trans r.1, p.2.trans r.2⟩
set_option maxHeartbeats 4000000 in
theorem x_init10 {a : Nat} (ha : a < zN h) (ka : kd h a = 9) : ∃ h2, F_X10_init a h = some ((), h2, 2, 432) ∧ fR h h2 a 2 ∧ zR h2 a 1 = some (zN h) ∧ zR h2 a 2 = some (zN h + 1) ∧ kd h2 (zN h) = 13 ∧ zl h2 (zN h) = 400 ∧ kd h2 (zN h + 1) = 13 ∧ zl h2 (zN h + 1) = 32 := by
  have n1 : (a = zN h) = False := eq_false (by omega)
  have n2 : (a = zN h + 1) = False := eq_false (by omega)
  have n3 : (zN h = a) = False := eq_false (by omega)
  have n4 : (zN h + 1 = a) = False := eq_false (by omega)
  have n5 : (zN h = zN h + 1) = False := eq_false (by omega)
  have n6 : (zN h + 1 = zN h) = False := eq_false (by omega)
  have c4 : (400 : Int32).toNatClampNeg = 400 := by decide
  have c3 : (32 : Int32).toNatClampNeg = 32 := by decide
  refine ⟨setI (setR (alloc (setR (alloc (setI h a 0 0) 13 400) a 1 (some (zN h))) 13 32) a 2 (some (zN h + 1))) a 3 0, ?_, ?_, ?_, ?_, ?_, ?_, ?_, ?_⟩
  · simp only [F_X10_init, F_X10_init_b0, F_X7_init_k9, F_X7_init_k9_b0, ka, c4, c3, kd_al, kd_setI, zN_al, zN_sI, zN_sR, n1, gd_t, ob_s, ob2_s, ob4_s, sm_l, sm_r, ac_s, decide_true, decide_false, eq_self, ne_eq, not_false_eq_true, not_true_eq_false, if_true, if_false, ite_true, ite_false, reduceIte, or_true, true_or, or_false, false_or, and_true, true_and, Bool.false_eq_true, reduceCtorEq]
  · exact fR_t (fR_t (fR_t (fR_t (fR_sI h a 0 0) (fR_al _ 13 400 a)) (fR_t (fR_sR _ a 1 _) (fR_al _ 13 32 a))) (fR_sR _ a 2 _)) (fR_sI _ a 3 0)
  · simp only [zR_setI, zR_setR, zR_al, zN_al, zN_sI, zN_sR, n1, n2, gd_t, ob_s, ob2_s, ob4_s, sm_l, sm_r, ac_s, decide_true, decide_false, eq_self, ne_eq, not_false_eq_true, not_true_eq_false, if_true, if_false, ite_true, ite_false, reduceIte, or_true, true_or, or_false, false_or, and_true, true_and, Bool.false_eq_true, reduceCtorEq, show ((1 : Nat) = 2) = False from eq_false (by decide)]
  · simp only [zR_setI, zR_setR, zR_al, zN_al, zN_sI, zN_sR, n1, n2, gd_t, ob_s, ob2_s, ob4_s, sm_l, sm_r, ac_s, decide_true, decide_false, eq_self, ne_eq, not_false_eq_true, not_true_eq_false, if_true, if_false, ite_true, ite_false, reduceIte, or_true, true_or, or_false, false_or, and_true, true_and, Bool.false_eq_true, reduceCtorEq]
  · simp only [kd_setI, kd_setR, kd_al, zN_al, zN_sI, zN_sR, n5, gd_t, ob_s, ob2_s, ob4_s, sm_l, sm_r, ac_s, decide_true, decide_false, eq_self, ne_eq, not_false_eq_true, not_true_eq_false, if_true, if_false, ite_true, ite_false, reduceIte, or_true, true_or, or_false, false_or, and_true, true_and, Bool.false_eq_true, reduceCtorEq]
  · simp only [zl_setI, zl_setR, zl_al, zN_al, zN_sI, zN_sR, n5, gd_t, ob_s, ob2_s, ob4_s, sm_l, sm_r, ac_s, decide_true, decide_false, eq_self, ne_eq, not_false_eq_true, not_true_eq_false, if_true, if_false, ite_true, ite_false, reduceIte, or_true, true_or, or_false, false_or, and_true, true_and, Bool.false_eq_true, reduceCtorEq]
  · simp only [kd_setI, kd_setR, kd_al, zN_al, zN_sI, zN_sR, n6, gd_t, ob_s, ob2_s, ob4_s, sm_l, sm_r, ac_s, decide_true, decide_false, eq_self, ne_eq, not_false_eq_true, not_true_eq_false, if_true, if_false, ite_true, ite_false, reduceIte, or_true, true_or, or_false, false_or, and_true, true_and, Bool.false_eq_true, reduceCtorEq]
  · simp only [zl_setI, zl_setR, zl_al, zN_al, zN_sI, zN_sR, n6, gd_t, ob_s, ob2_s, ob4_s, sm_l, sm_r, ac_s, decide_true, decide_false, eq_self, ne_eq, not_false_eq_true, not_true_eq_false, if_true, if_false, ite_true, ite_false, reduceIte, or_true, true_or, or_false, false_or, and_true, true_and, Bool.false_eq_true, reduceCtorEq]
end MAKE
