/-! A HOUSE IS MADE: all of it -/
section MAKE2
variable {h : Hp}
set_option maxHeartbeats 4000000 in
theorem x_init8 {a : Nat} (ha : a < zN h) (ka : kd h a = 7) : ∃ h2, F_X8_init a h = some ((), h2, 3, 18) ∧ fR h h2 a 3 ∧ (zR h2 a 1 = some (zN h) ∧ zR h2 a 2 = some (zN h + 1) ∧ zR h2 a 3 = some (zN h + 2)) ∧ (kd h2 (zN h) = 13 ∧ zl h2 (zN h) = 6) ∧ (kd h2 (zN h + 1) = 13 ∧ zl h2 (zN h + 1) = 6) ∧ (kd h2 (zN h + 2) = 13 ∧ zl h2 (zN h + 2) = 6) := by
  have n1 : (a = zN h) = False := eq_false (by omega)
  have n2 : (a = zN h + 1) = False := eq_false (by omega)
  have n3 : (a = zN h + 2) = False := eq_false (by omega)
  have c6 : (6 : Int32).toNatClampNeg = 6 := by decide
  have p2 : zN h + 1 + 1 = zN h + 2 := rfl
  refine ⟨setR (alloc (setR (alloc (setR (alloc (setI h a 0 0) 13 6) a 1 (some (zN h))) 13 6) a 2 (some (zN h + 1))) 13 6) a 3 (some (zN h + 2)), ?_, ?_, ⟨?_, ?_, ?_⟩, ⟨?_, ?_⟩, ⟨?_, ?_⟩, ⟨?_, ?_⟩⟩
  · simp only [F_X8_init, F_X8_init_b0, ka, c6, zN_al, zN_sI, zN_sR, gd_t, ob_s, ob2_s, ob4_s, sm_l, sm_r, ac_s, decide_true, decide_false, eq_self, ne_eq, not_false_eq_true, not_true_eq_false, if_true, if_false, ite_true, ite_false, reduceIte, or_true, true_or, or_false, false_or, and_true, true_and, Bool.false_eq_true, reduceCtorEq]
  · exact fR_t (fR_t (fR_t (fR_sI h a 0 0) (fR_t (fR_al _ 13 6 a) (fR_sR _ a 1 _))) (fR_t (fR_al _ 13 6 a) (fR_sR _ a 2 _))) (fR_t (fR_al _ 13 6 a) (fR_sR _ a 3 _))
  · simp +decide only [zR_setI, zR_setR, zR_al, zN_al, zN_sI, zN_sR, p2, n1, n2, n3, gd_t, ob_s, ob2_s, ob4_s, sm_l, sm_r, ac_s, decide_true, decide_false, eq_self, ne_eq, not_false_eq_true, not_true_eq_false, if_true, if_false, ite_true, ite_false, reduceIte, or_true, true_or, or_false, false_or, and_true, true_and, Bool.false_eq_true, reduceCtorEq]
  · simp +decide only [zR_setI, zR_setR, zR_al, zN_al, zN_sI, zN_sR, p2, n1, n2, n3, gd_t, ob_s, ob2_s, ob4_s, sm_l, sm_r, ac_s, decide_true, decide_false, eq_self, ne_eq, not_false_eq_true, not_true_eq_false, if_true, if_false, ite_true, ite_false, reduceIte, or_true, true_or, or_false, false_or, and_true, true_and, Bool.false_eq_true, reduceCtorEq]
  · simp +decide only [zR_setI, zR_setR, zR_al, zN_al, zN_sI, zN_sR, p2, n1, n2, n3, gd_t, ob_s, ob2_s, ob4_s, sm_l, sm_r, ac_s, decide_true, decide_false, eq_self, ne_eq, not_false_eq_true, not_true_eq_false, if_true, if_false, ite_true, ite_false, reduceIte, or_true, true_or, or_false, false_or, and_true, true_and, Bool.false_eq_true, reduceCtorEq]
  · simp (disch := omega) only [kd_setI, kd_setR, kd_al, zN_al, zN_sI, zN_sR, gd_t, ob_s, ob2_s, ob4_s, sm_l, sm_r, ac_s, decide_true, decide_false, eq_self, ne_eq, not_false_eq_true, not_true_eq_false, if_true, if_false, ite_true, ite_false, reduceIte, or_true, true_or, or_false, false_or, and_true, true_and, Bool.false_eq_true, reduceCtorEq, show (zN h = zN h + 1) = False from eq_false (by omega), show (zN h = zN h + 1 + 1) = False from eq_false (by omega)]
  · simp (disch := omega) only [zl_setI, zl_setR, zl_al, zN_al, zN_sI, zN_sR, gd_t, ob_s, ob2_s, ob4_s, sm_l, sm_r, ac_s, decide_true, decide_false, eq_self, ne_eq, not_false_eq_true, not_true_eq_false, if_true, if_false, ite_true, ite_false, reduceIte, or_true, true_or, or_false, false_or, and_true, true_and, Bool.false_eq_true, reduceCtorEq, show (zN h = zN h + 1) = False from eq_false (by omega), show (zN h = zN h + 1 + 1) = False from eq_false (by omega)]
  · simp (disch := omega) only [kd_setI, kd_setR, kd_al, zN_al, zN_sI, zN_sR, gd_t, ob_s, ob2_s, ob4_s, sm_l, sm_r, ac_s, decide_true, decide_false, eq_self, ne_eq, not_false_eq_true, not_true_eq_false, if_true, if_false, ite_true, ite_false, reduceIte, or_true, true_or, or_false, false_or, and_true, true_and, Bool.false_eq_true, reduceCtorEq, show (zN h + 1 = zN h + 1 + 1) = False from eq_false (by omega)]
  · simp (disch := omega) only [zl_setI, zl_setR, zl_al, zN_al, zN_sI, zN_sR, gd_t, ob_s, ob2_s, ob4_s, sm_l, sm_r, ac_s, decide_true, decide_false, eq_self, ne_eq, not_false_eq_true, not_true_eq_false, if_true, if_false, ite_true, ite_false, reduceIte, or_true, true_or, or_false, false_or, and_true, true_and, Bool.false_eq_true, reduceCtorEq, show (zN h + 1 = zN h + 1 + 1) = False from eq_false (by omega)]
  · simp (disch := omega) only [kd_setI, kd_setR, kd_al, zN_al, zN_sI, zN_sR, p2, gd_t, ob_s, ob2_s, ob4_s, sm_l, sm_r, ac_s, decide_true, decide_false, eq_self, ne_eq, not_false_eq_true, not_true_eq_false, if_true, if_false, ite_true, ite_false, reduceIte, or_true, true_or, or_false, false_or, and_true, true_and, Bool.false_eq_true, reduceCtorEq]
  · simp (disch := omega) only [zl_setI, zl_setR, zl_al, zN_al, zN_sI, zN_sR, p2, gd_t, ob_s, ob2_s, ob4_s, sm_l, sm_r, ac_s, decide_true, decide_false, eq_self, ne_eq, not_false_eq_true, not_true_eq_false, if_true, if_false, ite_true, ite_false, reduceIte, or_true, true_or, or_false, false_or, and_true, true_and, Bool.false_eq_true, reduceCtorEq]
set_option maxHeartbeats 4000000 in
theorem x_init0 {a : Nat} (ha : a < zN h) (ka : kd h a = 0) : ∃ h2, F_X0_init a h = some ((), h2, 3, 60) ∧ fR h h2 a 3 ∧ (zR h2 a 1 = some (zN h) ∧ zR h2 a 2 = some (zN h + 1) ∧ zR h2 a 3 = some (zN h + 2)) ∧ (kd h2 (zN h) = 13 ∧ zl h2 (zN h) = 20) ∧ (kd h2 (zN h + 1) = 13 ∧ zl h2 (zN h + 1) = 20) ∧ (kd h2 (zN h + 2) = 13 ∧ zl h2 (zN h + 2) = 20) := by
  have n1 : (a = zN h) = False := eq_false (by omega)
  have n2 : (a = zN h + 1) = False := eq_false (by omega)
  have n3 : (a = zN h + 2) = False := eq_false (by omega)
  have c20 : (20 : Int32).toNatClampNeg = 20 := by decide
  have p2 : zN h + 1 + 1 = zN h + 2 := rfl
  refine ⟨setR (alloc (setR (alloc (setR (alloc (setI h a 0 0) 13 20) a 1 (some (zN h))) 13 20) a 2 (some (zN h + 1))) 13 20) a 3 (some (zN h + 2)), ?_, ?_, ⟨?_, ?_, ?_⟩, ⟨?_, ?_⟩, ⟨?_, ?_⟩, ⟨?_, ?_⟩⟩
  · simp only [F_X0_init, F_X0_init_b0, F_X7_init_k0, F_X7_init_k0_b0, ka, c20, kd_al, kd_setI, n1, zN_al, zN_sI, zN_sR, gd_t, ob_s, ob2_s, ob4_s, sm_l, sm_r, ac_s, decide_true, decide_false, eq_self, ne_eq, not_false_eq_true, not_true_eq_false, if_true, if_false, ite_true, ite_false, reduceIte, or_true, true_or, or_false, false_or, and_true, true_and, Bool.false_eq_true, reduceCtorEq]
  · exact fR_t (fR_t (fR_t (fR_sI h a 0 0) (fR_t (fR_al _ 13 20 a) (fR_sR _ a 1 _))) (fR_t (fR_al _ 13 20 a) (fR_sR _ a 2 _))) (fR_t (fR_al _ 13 20 a) (fR_sR _ a 3 _))
  · simp +decide only [zR_setI, zR_setR, zR_al, zN_al, zN_sI, zN_sR, p2, n1, n2, n3, gd_t, ob_s, ob2_s, ob4_s, sm_l, sm_r, ac_s, decide_true, decide_false, eq_self, ne_eq, not_false_eq_true, not_true_eq_false, if_true, if_false, ite_true, ite_false, reduceIte, or_true, true_or, or_false, false_or, and_true, true_and, Bool.false_eq_true, reduceCtorEq]
  · simp +decide only [zR_setI, zR_setR, zR_al, zN_al, zN_sI, zN_sR, p2, n1, n2, n3, gd_t, ob_s, ob2_s, ob4_s, sm_l, sm_r, ac_s, decide_true, decide_false, eq_self, ne_eq, not_false_eq_true, not_true_eq_false, if_true, if_false, ite_true, ite_false, reduceIte, or_true, true_or, or_false, false_or, and_true, true_and, Bool.false_eq_true, reduceCtorEq]
  · simp +decide only [zR_setI, zR_setR, zR_al, zN_al, zN_sI, zN_sR, p2, n1, n2, n3, gd_t, ob_s, ob2_s, ob4_s, sm_l, sm_r, ac_s, decide_true, decide_false, eq_self, ne_eq, not_false_eq_true, not_true_eq_false, if_true, if_false, ite_true, ite_false, reduceIte, or_true, true_or, or_false, false_or, and_true, true_and, Bool.false_eq_true, reduceCtorEq]
  · simp (disch := omega) only [kd_setI, kd_setR, kd_al, zN_al, zN_sI, zN_sR, gd_t, ob_s, ob2_s, ob4_s, sm_l, sm_r, ac_s, decide_true, decide_false, eq_self, ne_eq, not_false_eq_true, not_true_eq_false, if_true, if_false, ite_true, ite_false, reduceIte, or_true, true_or, or_false, false_or, and_true, true_and, Bool.false_eq_true, reduceCtorEq, show (zN h = zN h + 1) = False from eq_false (by omega), show (zN h = zN h + 1 + 1) = False from eq_false (by omega)]
  · simp (disch := omega) only [zl_setI, zl_setR, zl_al, zN_al, zN_sI, zN_sR, gd_t, ob_s, ob2_s, ob4_s, sm_l, sm_r, ac_s, decide_true, decide_false, eq_self, ne_eq, not_false_eq_true, not_true_eq_false, if_true, if_false, ite_true, ite_false, reduceIte, or_true, true_or, or_false, false_or, and_true, true_and, Bool.false_eq_true, reduceCtorEq, show (zN h = zN h + 1) = False from eq_false (by omega), show (zN h = zN h + 1 + 1) = False from eq_false (by omega)]
  · simp (disch := omega) only [kd_setI, kd_setR, kd_al, zN_al, zN_sI, zN_sR, gd_t, ob_s, ob2_s, ob4_s, sm_l, sm_r, ac_s, decide_true, decide_false, eq_self, ne_eq, not_false_eq_true, not_true_eq_false, if_true, if_false, ite_true, ite_false, reduceIte, or_true, true_or, or_false, false_or, and_true, true_and, Bool.false_eq_true, reduceCtorEq, show (zN h + 1 = zN h + 1 + 1) = False from eq_false (by omega)]
  · simp (disch := omega) only [zl_setI, zl_setR, zl_al, zN_al, zN_sI, zN_sR, gd_t, ob_s, ob2_s, ob4_s, sm_l, sm_r, ac_s, decide_true, decide_false, eq_self, ne_eq, not_false_eq_true, not_true_eq_false, if_true, if_false, ite_true, ite_false, reduceIte, or_true, true_or, or_false, false_or, and_true, true_and, Bool.false_eq_true, reduceCtorEq, show (zN h + 1 = zN h + 1 + 1) = False from eq_false (by omega)]
  · simp (disch := omega) only [kd_setI, kd_setR, kd_al, zN_al, zN_sI, zN_sR, p2, gd_t, ob_s, ob2_s, ob4_s, sm_l, sm_r, ac_s, decide_true, decide_false, eq_self, ne_eq, not_false_eq_true, not_true_eq_false, if_true, if_false, ite_true, ite_false, reduceIte, or_true, true_or, or_false, false_or, and_true, true_and, Bool.false_eq_true, reduceCtorEq]
  · simp (disch := omega) only [zl_setI, zl_setR, zl_al, zN_al, zN_sI, zN_sR, p2, gd_t, ob_s, ob2_s, ob4_s, sm_l, sm_r, ac_s, decide_true, decide_false, eq_self, ne_eq, not_false_eq_true, not_true_eq_false, if_true, if_false, ite_true, ite_false, reduceIte, or_true, true_or, or_false, false_or, and_true, true_and, Bool.false_eq_true, reduceCtorEq]
/-- a new row, put into a field -/
def arr (h : Hp) (K j kk n : Nat) : Hp := setR (alloc h kk n) K j (some (zN h))
theorem arr_f (h : Hp) (K j kk n : Nat) : fR h (arr h K j kk n) K 1 := fR_t (fR_al h kk n K) (fR_sR _ K j _)
theorem arr_k {K : Nat} (hK : K < zN h) (j kk n : Nat) : kd (arr h K j kk n) (zN h) = kk ∧ zl (arr h K j kk n) (zN h) = n := by
  unfold arr
  rw [kd_setR, zl_setR, kd_al, zl_al, if_pos rfl, if_pos rfl]
  exact ⟨rfl, rfl⟩
theorem arr_r {K : Nat} (hK : K < zN h) (j kk n i : Nat) : zR (arr h K j kk n) K i = if i = j then some (zN h) else zR h K i := by
  unfold arr
  rw [zR_setR, if_pos rfl, zR_al, if_neg (show ¬ K = zN h by omega)]
def hA (h : Hp) (K : Nat) : Hp := arr (arr (arr (setI (arr (arr (arr (arr (setI h K 0 0) K 1 13 8) K 2 13 8) K 3 13 8) K 4 13 8) K 5 0) K 6 13 5) K 7 13 5) K 8 15 5
def hC (h : Hp) (K q : Nat) : Hp := setI (setI (setI (setI (setI (setI (setR h K 9 (some q)) K 10 0) K 11 0) K 12 1000) K 13 2000) K 14 0) K 15 1
def hD (h : Hp) (K q : Nat) : Hp := arr (arr (setI (setR h K 16 (some q)) K 17 0) K 18 13 8) K 19 13 8
def wS (K : Nat) (j : Nat) (h : Hp) (nx : Hp → Option (Unit × Hp × Nat × Nat)) : Option (Unit × Hp × Nat × Nat) := ob (zR h K 8) fun q91 => ac 1 4 <| ob4 (F_X10_init (zN h) (alloc h 9 0)) fun _ h99 n100 n101 => ac n100 n101 <| gd (decide (kd h99 q91 = 15)) <| gd (decide (kd h99 (zN h) = 9)) <| gd (ix (nI j) (zl h99 q91)) <| nx (setR h99 q91 (nI j).toNatClampNeg (some (zN h)))
def wN2 (K : Nat) (nx : Hp → Option (Unit × Hp × Nat × Nat)) (h : Hp) : Option (Unit × Hp × Nat × Nat) := gd (decide (kd h K = 2)) (nx h)
set_option maxHeartbeats 4000000 in
set_option maxRecDepth 4000 in
theorem init_eq (K : Nat) (h : Hp) : F_X2_init K h = gd (decide (kd h K = 2)) (ac 1 8 <| ac 1 8 <| ac 1 8 <| ac 1 8 <| ac 1 5 <| ac 1 5 <| ac 1 5 <| ac 1 4 <| ob4 (F_X8_init (zN (hA h K)) (alloc (hA h K) 7 0)) fun _ h57 n58 n59 => ac n58 n59 <| gd (decide (kd h57 K = 2)) <| ac 1 4 <| ob4 (F_X0_init (zN (hC h57 K (zN (hA h K)))) (alloc (hC h57 K (zN (hA h K))) 0 0)) fun _ h72 n73 n74 => ac n73 n74 <| gd (decide (kd h72 K = 2)) <| ac 1 8 <| ac 1 8 <| wS K 0 (hD h72 K (zN (hC h57 K (zN (hA h K))))) <| wN2 K fun h1 => wS K 1 h1 <| wN2 K fun h2 => wS K 2 h2 <| wN2 K fun h3 => wS K 3 h3 <| wN2 K fun h4 => wS K 4 h4 fun h5 => some ((), h5, 0, 0)) := rfl
/-- what is kept over a change -/
theorem fR_k {h h2 : Hp} {a m b k n : Nat} (x : fR h h2 a m) (hb : b < zN h) (q : kd h b = k ∧ zl h b = n) : kd h2 b = k ∧ zl h2 b = n := ⟨(x.2.1 b hb).1.trans q.1, (x.2.1 b hb).2.trans q.2⟩
/-- a guest's wishes are made -/
theorem x_wS {K W j : Nat} (hj : j < 5) (hK : K < zN h) (hW : W < zN h) (hKW : K ≠ W) (r8 : zR h K 8 = some W) (kW : kd h W = 15 ∧ zl h W = 5) : ∃ h3, (∀ nx : Hp → Option (Unit × Hp × Nat × Nat), wS K j h nx = ac 1 4 (ac 2 432 (nx h3))) ∧ fR h h3 W 3 ∧ (∀ i, zR h3 W i = if i = j then some (zN h) else zR h W i) ∧ kd h3 (zN h) = 9 ∧ (zR h3 (zN h) 1 = some (zN h + 1) ∧ zR h3 (zN h) 2 = some (zN h + 2)) ∧ (kd h3 (zN h + 1) = 13 ∧ zl h3 (zN h + 1) = 400) ∧ (kd h3 (zN h + 2) = 13 ∧ zl h3 (zN h + 2) = 32) := by
  have kn : kd (alloc h 9 0) (zN h) = 9 := by rw [kd_al, if_pos rfl]
  obtain ⟨h2, e, x, r1, r2, k1, l1, k2, l2⟩ := x_init10 (h := alloc h 9 0) (a := zN h) (by rw [zN_al]; omega) kn
  have x2 : fR h h2 W 3 := by
    obtain ⟨a1, a2, a3⟩ := fR_al h 9 0 W
    obtain ⟨b1, b2, b3⟩ := x
    rw [zN_al] at b1 b2 b3
    refine ⟨by omega, fun b hb => ?_, fun b hb q => ?_⟩
    · exact ⟨(b2 b (by omega)).1.trans (a2 b hb).1, (b2 b (by omega)).2.trans (a2 b hb).2⟩
    · exact ⟨(b3 b (by omega) (by omega)).1.trans (a3 b hb q).1, (b3 b (by omega) (by omega)).2.trans (a3 b hb q).2⟩
  have zW : zR h2 W = zR h W := by
    have := (x.2.2 W (by rw [zN_al]; omega) (by omega)).1
    rw [this]
    funext i
    rw [zR_al, if_neg (by omega)]
  rw [zN_al] at r1 r2 k1 l1 k2 l2
  refine ⟨setR h2 W j (some (zN h)), fun nx => ?_, fR_t x2 (fR_sR h2 W j _), fun i => ?_, ?_, ⟨?_, ?_⟩, ⟨k1, l1⟩, ⟨k2, l2⟩⟩
  · have kW2 := fR_k x2 hW kW
    have kn2 : kd h2 (zN h) = 9 := (x.2.1 (zN h) (by rw [zN_al]; omega)).1.trans kn
    unfold wS
    rw [r8, ob_s, e, ob4_s, gd_d kW2.1, gd_d kn2, kW2.2, ix_t hj (by omega), gd_t, ncl (by omega)]
  · rw [zR_setR, if_pos rfl, zW]
  · exact (x.2.1 (zN h) (by rw [zN_al]; omega)).1.trans kn
  · rw [zR_setR, if_neg (by omega)]
    exact r1
  · rw [zR_setR, if_neg (by omega)]
    exact r2
end MAKE2
