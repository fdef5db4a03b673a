/-! WISHES: the class's holding -/
theorem n5 {n : Int32} (h : 0 ≤ n.toInt ∧ n.toInt ≤ 4) : n = 0 ∨ n = 1 ∨ n = 2 ∨ n = 3 ∨ n = 4 := by
  have e : n = nI n.toInt.toNat := by
    rw [fa_eq, nI_toInt (by omega)]
    omega
  have : n.toInt.toNat = 0 ∨ n.toInt.toNat = 1 ∨ n.toInt.toNat = 2 ∨ n.toInt.toNat = 3 ∨ n.toInt.toNat = 4 := by omega
  rcases this with q | q | q | q | q <;> rw [q] at e
  · exact Or.inl e
  · exact Or.inr (Or.inl e)
  · exact Or.inr (Or.inr (Or.inl e))
  · exact Or.inr (Or.inr (Or.inr (Or.inl e)))
  · exact Or.inr (Or.inr (Or.inr (Or.inr e)))
def factK (k n : Int32) : Prop := k = 0 ∨ k = 1 ∨ k = 2 ∨ k = 3 ∨ k = 4 ∨ k = 5 ∨ k = 6 ∨ k = 7 ∨ (k = 8 ∧ 0 ≤ n.toInt ∧ n.toInt ≤ 4) ∨ (k = 9 ∧ 0 ≤ n.toInt ∧ n.toInt ≤ 99999)
theorem hdS_le (s : Nat → Nat) (n r : Nat) : hdS s n r ≤ n := fb_ct_le _ _
theorem b2bI (b : Bool) : b2 b = bI b := rfl
section HOLD
variable {h : Hp} {f : Nat → Int32}
theorem ite_bI {p : Prop} [Decidable p] : (if p then some (1 : Int32) else some 0) = some (bI (decide p)) := by
  by_cases q : p
  · rw [if_pos q, decide_eq_true q]; rfl
  · rw [if_neg q, decide_eq_false q]; rfl
theorem x_val (s : Sh h) (i : Inv f) (c : HR (zI h) 3 f) {Q : Nat} (hk : kd h Q = 13) (hl : zl h Q = 5) {sf : Nat → Nat} (hs : seated h Q (nG f) sf) {g : Nat} (hg : g < nG f) {k n : Int32} (q : factK k n) : F_X10_valueOf (cod k n) 3 (nI g) Q h = some (faS f sf g k n) := by
  have g5 := iG5 i
  obtain ⟨z1, z2⟩ := hs g hg
  have hd := hdS_le sf (nG f) (sf g)
  obtain ⟨c1, c2, c3, c4⟩ := c.2.1 (sf g) z2
  have d1 : zI h 4 (sf g) = f (11 + 4 * sf g) := c1
  have d2 : zI h 5 (sf g) = f (12 + 4 * sf g) := c2
  have d4 : zI h 7 (sf g) = f (14 + 4 * sf g) := c4
  have d11 : zI h 3 11 = nI (sR f) := c.1.2.2.2.2.2.2.1.trans (iS i).1
  have e1 : (nI (hdS sf (nG f) (sf g)) = 1) = (hdS sf (nG f) (sf g) = 1) := propext (nI_eq (b := 1) (by omega) (by omega))
  have e2 : (nI (sR f) = nI (sf g)) = (sR f = sf g) := propext (nI_eq (by have := (iS i).2.1; omega) (by omega))
  rcases q with rfl | rfl | rfl | rfl | rfl | rfl | rfl | rfl | ⟨rfl, hn⟩ | ⟨rfl, hn⟩
  · have : cod 0 n = -10 := rfl
    rw [this]
    simp +decide (disch := omega) only [F_X10_valueOf, F_X10_valueOf_b0, hk, hl, z1, ix_t, ncl, d1, faS, k59 s, r59_1 s, k60 s, l60 s, k0 s, r0_1 s, k3 s, r3_1 s, r3_2 s, r3_3 s, r3_4 s, r3_6 s, r3_7 s, r3_8 s, r3_9 s, r3_16 s, k4 s, k5 s, k6 s, k7 s, k8 s, k9 s, l4 s, l5 s, l6 s, l7 s, l8 s, l9 s, k11 s, r11_1 s, r11_2 s, r11_3 s, k12 s, k13 s, k14 s, l12 s, l13 s, l14 s, k15 s, r0_0 s, k1 s, gd_t, ob_s, ob2_s, ob4_s, sm_l, sm_r, ac_s, decide_true, decide_false, eq_self, ne_eq, not_false_eq_true, not_true_eq_false, if_true, if_false, ite_true, ite_false, reduceIte, or_true, true_or, or_false, false_or, and_true, true_and, Bool.false_eq_true, reduceCtorEq]
  · have : cod 1 n = -11 := rfl
    rw [this]
    simp +decide (disch := omega) only [F_X10_valueOf, F_X10_valueOf_b0, hk, hl, z1, ix_t, ncl, d2, faS, k59 s, r59_1 s, k60 s, l60 s, k0 s, r0_1 s, k3 s, r3_1 s, r3_2 s, r3_3 s, r3_4 s, r3_6 s, r3_7 s, r3_8 s, r3_9 s, r3_16 s, k4 s, k5 s, k6 s, k7 s, k8 s, k9 s, l4 s, l5 s, l6 s, l7 s, l8 s, l9 s, k11 s, r11_1 s, r11_2 s, r11_3 s, k12 s, k13 s, k14 s, l12 s, l13 s, l14 s, k15 s, r0_0 s, k1 s, gd_t, ob_s, ob2_s, ob4_s, sm_l, sm_r, ac_s, decide_true, decide_false, eq_self, ne_eq, not_false_eq_true, not_true_eq_false, if_true, if_false, ite_true, ite_false, reduceIte, or_true, true_or, or_false, false_or, and_true, true_and, Bool.false_eq_true, reduceCtorEq]
  · have : cod 2 n = -12 := rfl
    rw [this]
    simp +decide (disch := omega) only [F_X10_valueOf, F_X10_valueOf_b0, hk, hl, z1, ix_t, ncl, x_farOf s c, faS, k59 s, r59_1 s, k60 s, l60 s, k0 s, r0_1 s, k3 s, r3_1 s, r3_2 s, r3_3 s, r3_4 s, r3_6 s, r3_7 s, r3_8 s, r3_9 s, r3_16 s, k4 s, k5 s, k6 s, k7 s, k8 s, k9 s, l4 s, l5 s, l6 s, l7 s, l8 s, l9 s, k11 s, r11_1 s, r11_2 s, r11_3 s, k12 s, k13 s, k14 s, l12 s, l13 s, l14 s, k15 s, r0_0 s, k1 s, gd_t, ob_s, ob2_s, ob4_s, sm_l, sm_r, ac_s, decide_true, decide_false, eq_self, ne_eq, not_false_eq_true, not_true_eq_false, if_true, if_false, ite_true, ite_false, reduceIte, or_true, true_or, or_false, false_or, and_true, true_and, Bool.false_eq_true, reduceCtorEq]
  · have : cod 3 n = -13 := rfl
    rw [this]
    simp +decide (disch := omega) only [F_X10_valueOf, F_X10_valueOf_b0, hk, hl, z1, ix_t, ncl, x_headsIn s i c hk hl hs, faS, k59 s, r59_1 s, k60 s, l60 s, k0 s, r0_1 s, k3 s, r3_1 s, r3_2 s, r3_3 s, r3_4 s, r3_6 s, r3_7 s, r3_8 s, r3_9 s, r3_16 s, k4 s, k5 s, k6 s, k7 s, k8 s, k9 s, l4 s, l5 s, l6 s, l7 s, l8 s, l9 s, k11 s, r11_1 s, r11_2 s, r11_3 s, k12 s, k13 s, k14 s, l12 s, l13 s, l14 s, k15 s, r0_0 s, k1 s, gd_t, ob_s, ob2_s, ob4_s, sm_l, sm_r, ac_s, decide_true, decide_false, eq_self, ne_eq, not_false_eq_true, not_true_eq_false, if_true, if_false, ite_true, ite_false, reduceIte, or_true, true_or, or_false, false_or, and_true, true_and, Bool.false_eq_true, reduceCtorEq]
  · have : cod 4 n = -14 := rfl
    rw [this]
    simp +decide (disch := omega) only [F_X10_valueOf, F_X10_valueOf_b0, hk, hl, z1, ix_t, ncl, d4, faS, k59 s, r59_1 s, k60 s, l60 s, k0 s, r0_1 s, k3 s, r3_1 s, r3_2 s, r3_3 s, r3_4 s, r3_6 s, r3_7 s, r3_8 s, r3_9 s, r3_16 s, k4 s, k5 s, k6 s, k7 s, k8 s, k9 s, l4 s, l5 s, l6 s, l7 s, l8 s, l9 s, k11 s, r11_1 s, r11_2 s, r11_3 s, k12 s, k13 s, k14 s, l12 s, l13 s, l14 s, k15 s, r0_0 s, k1 s, gd_t, ob_s, ob2_s, ob4_s, sm_l, sm_r, ac_s, decide_true, decide_false, eq_self, ne_eq, not_false_eq_true, not_true_eq_false, if_true, if_false, ite_true, ite_false, reduceIte, or_true, true_or, or_false, false_or, and_true, true_and, Bool.false_eq_true, reduceCtorEq]
  · have : cod 5 n = -15 := rfl
    rw [this]
    simp +decide (disch := omega) only [F_X10_valueOf, F_X10_valueOf_b0, hk, hl, z1, ix_t, ncl, faS, k59 s, r59_1 s, k60 s, l60 s, k0 s, r0_1 s, k3 s, r3_1 s, r3_2 s, r3_3 s, r3_4 s, r3_6 s, r3_7 s, r3_8 s, r3_9 s, r3_16 s, k4 s, k5 s, k6 s, k7 s, k8 s, k9 s, l4 s, l5 s, l6 s, l7 s, l8 s, l9 s, k11 s, r11_1 s, r11_2 s, r11_3 s, k12 s, k13 s, k14 s, l12 s, l13 s, l14 s, k15 s, r0_0 s, k1 s, gd_t, ob_s, ob2_s, ob4_s, sm_l, sm_r, ac_s, decide_true, decide_false, eq_self, ne_eq, not_false_eq_true, not_true_eq_false, if_true, if_false, ite_true, ite_false, reduceIte, or_true, true_or, or_false, false_or, and_true, true_and, Bool.false_eq_true, reduceCtorEq]
  · have : cod 6 n = -8 := rfl
    rw [this]
    simp +decide (disch := omega) only [F_X10_valueOf, F_X10_valueOf_b0, F_X10_valueOf_b76, hk, hl, z1, ix_t, ncl, x_headsIn s i c hk hl hs, e1, faS, ite_bI, k59 s, r59_1 s, k60 s, l60 s, k0 s, r0_1 s, k3 s, r3_1 s, r3_2 s, r3_3 s, r3_4 s, r3_6 s, r3_7 s, r3_8 s, r3_9 s, r3_16 s, k4 s, k5 s, k6 s, k7 s, k8 s, k9 s, l4 s, l5 s, l6 s, l7 s, l8 s, l9 s, k11 s, r11_1 s, r11_2 s, r11_3 s, k12 s, k13 s, k14 s, l12 s, l13 s, l14 s, k15 s, r0_0 s, k1 s, gd_t, ob_s, ob2_s, ob4_s, sm_l, sm_r, ac_s, decide_true, decide_false, eq_self, ne_eq, not_false_eq_true, not_true_eq_false, if_true, if_false, ite_true, ite_false, reduceIte, or_true, true_or, or_false, false_or, and_true, true_and, Bool.false_eq_true, reduceCtorEq]
  · have : cod 7 n = -9 := rfl
    rw [this]
    simp +decide (disch := omega) only [F_X10_valueOf, F_X10_valueOf_b0, F_X10_valueOf_b91, hk, hl, z1, ix_t, ncl, d11, e2, faS, ite_bI, k59 s, r59_1 s, k60 s, l60 s, k0 s, r0_1 s, k3 s, r3_1 s, r3_2 s, r3_3 s, r3_4 s, r3_6 s, r3_7 s, r3_8 s, r3_9 s, r3_16 s, k4 s, k5 s, k6 s, k7 s, k8 s, k9 s, l4 s, l5 s, l6 s, l7 s, l8 s, l9 s, k11 s, r11_1 s, r11_2 s, r11_3 s, k12 s, k13 s, k14 s, l12 s, l13 s, l14 s, k15 s, r0_0 s, k1 s, gd_t, ob_s, ob2_s, ob4_s, sm_l, sm_r, ac_s, decide_true, decide_false, eq_self, ne_eq, not_false_eq_true, not_true_eq_false, if_true, if_false, ite_true, ite_false, reduceIte, or_true, true_or, or_false, false_or, and_true, true_and, Bool.false_eq_true, reduceCtorEq]
  · have e3 : cod 8 n = -16 - n := rfl
    have e4 : (-16 : Int32) - (-16 - n) = n := by
      rcases n5 hn with rfl | rfl | rfl | rfl | rfl <;> decide
    have e5 : (-16 : Int32) - n < 0 ∧ ¬ (-16 : Int32) - n = -15 ∧ ¬ (-16 : Int32) - n = -14 ∧ ¬ (-16 : Int32) - n = -13 ∧ ¬ (-16 : Int32) - n = -12 ∧ ¬ (-16 : Int32) - n = -11 ∧ ¬ (-16 : Int32) - n = -10 ∧ ¬ (-16 : Int32) - n = -9 ∧ ¬ (-16 : Int32) - n = -8 := by
      rcases n5 hn with rfl | rfl | rfl | rfl | rfl <;> decide
    have e6 : faS f sf g 8 n = bI (isIn n (nG f) && decide (sf n.toNatClampNeg = sf g)) := rfl
    rw [e3, e6]
    unfold F_X10_valueOf F_X10_valueOf_b0 F_X10_valueOf_b168 F_X10_valueOf_b169
    rw [if_pos e5.1, gd_d hk, hl, ix_t (by omega) (by omega), gd_t, if_neg e5.2.1, if_neg e5.2.2.1, if_neg e5.2.2.2.1, if_neg e5.2.2.2.2.1, if_neg e5.2.2.2.2.2.1, if_neg e5.2.2.2.2.2.2.1, if_neg e5.2.2.2.2.2.2.2.1, if_neg e5.2.2.2.2.2.2.2.2, e4, x_hasGuest s i c, ob_s, gd_d (k3 s), ncl (by omega), z1]
    cases q : isIn n (nG f) with
    | false => rfl
    | true =>
      obtain ⟨j, hj, rfl⟩ := isIn_of (by omega) q
      obtain ⟨y1, y2⟩ := hs j hj
      rw [b2_t, if_neg (by decide), ix_t (by omega) (by omega), gd_t, ncl (by omega), y1, Bool.true_and]
      have e7 : (nI (sf j) = nI (sf g)) = (sf j = sf g) := propext (nI_eq (by omega) (by omega))
      by_cases w : sf j = sf g
      · rw [if_pos (by rw [e7]; exact w), decide_eq_true w]; rfl
      · rw [if_neg (by rw [e7]; exact w), decide_eq_false w]; rfl
  · have e3 : cod 9 n = n := rfl
    have e4 : ¬ n < 0 := by
      rw [fa_lt]
      have : (0 : Int32).toInt = 0 := rfl
      omega
    rw [e3]
    unfold F_X10_valueOf F_X10_valueOf_b0
    rw [if_neg e4]
    rfl
theorem cod_fact {k n : Int32} (q : factK k n) : 0 ≤ cod k n ∨ (¬ 0 ≤ cod k n ∧ ¬ (-8 : Int32) < cod k n) := by
  rcases q with rfl | rfl | rfl | rfl | rfl | rfl | rfl | rfl | ⟨rfl, hn⟩ | ⟨rfl, hn⟩
  · exact Or.inr (by show ¬ (0 : Int32) ≤ -10 ∧ ¬ (-8 : Int32) < -10; decide)
  · exact Or.inr (by show ¬ (0 : Int32) ≤ -11 ∧ ¬ (-8 : Int32) < -11; decide)
  · exact Or.inr (by show ¬ (0 : Int32) ≤ -12 ∧ ¬ (-8 : Int32) < -12; decide)
  · exact Or.inr (by show ¬ (0 : Int32) ≤ -13 ∧ ¬ (-8 : Int32) < -13; decide)
  · exact Or.inr (by show ¬ (0 : Int32) ≤ -14 ∧ ¬ (-8 : Int32) < -14; decide)
  · exact Or.inr (by show ¬ (0 : Int32) ≤ -15 ∧ ¬ (-8 : Int32) < -15; decide)
  · exact Or.inr (by show ¬ (0 : Int32) ≤ -8 ∧ ¬ (-8 : Int32) < -8; decide)
  · exact Or.inr (by show ¬ (0 : Int32) ≤ -9 ∧ ¬ (-8 : Int32) < -9; decide)
  · refine Or.inr ?_
    show ¬ (0 : Int32) ≤ -16 - n ∧ ¬ (-8 : Int32) < -16 - n
    rcases n5 hn with rfl | rfl | rfl | rfl | rfl <;> decide
  · refine Or.inl ?_
    show (0 : Int32) ≤ n
    rw [fa_le]
    exact hn.1
theorem x_join {k a b : Int32} (q : k = 10 ∨ k = 11 ∨ k = 12 ∨ ((k = 14 ∨ k = 15) ∧ (a = 0 ∨ a = 1) ∧ (b = 0 ∨ b = 1))) (n : Int32) : F_X10_join (cod k n) a b h = some (jnS k a b) := by
  rcases q with rfl | rfl | rfl | ⟨rfl | rfl, rfl | rfl, rfl | rfl⟩
  · rfl
  · show (if b ≤ a then some (0 : Int32) else some 1) = some (bI (decide (a < b)))
    by_cases w : a < b
    · rw [if_neg (Int32.not_le.mpr w), decide_eq_true w]; rfl
    · rw [if_pos (Int32.not_lt.mp w), decide_eq_false w]; rfl
  · show (if a ≤ b then some (0 : Int32) else some 1) = some (bI (decide (b < a)))
    by_cases w : b < a
    · rw [if_neg (Int32.not_le.mpr w), decide_eq_true w]; rfl
    · rw [if_pos (Int32.not_lt.mp w), decide_eq_false w]; rfl
  all_goals rfl
/-- the heap with another stack for the wishes of g -/
def stH (h : Hp) (C : Nat) (M : Nat → Int32) : Hp := wI h (va_up (zI h) C M)
theorem stH_s {C : Nat} {M : Nat → Int32} (s : Sh h) : Sh (stH h C M) := s
theorem stH_o {C a : Nat} {M : Nat → Int32} (q : a ≠ C) : zI (stH h C M) a = zI h a := wv_n q
theorem stH_e {C : Nat} {M : Nat → Int32} : zI (stH h C M) C = M := wv_e
theorem stH_w {C k : Nat} {v : Int32} {M : Nat → Int32} : setI (stH h C M) C k v = stH h C (va_up M k v) := by
  unfold stH
  rw [setI_w, wI_I, wI_w, up2_va]
theorem stH_c {g : Nat} {M : Nat → Int32} (hg : g < 5) (i : Inv f) (c : HR (zI h) 3 f) : HR (zI (stH h (23 + 3 * g) M)) 3 f := by
  refine HR_congr (fun a ha => ?_) (fun g2 h2 => ⟨?_, ?_⟩) (fun _ _ => rfl) i c
  · exact stH_o (by omega)
  · exact stH_o (by omega)
  · exact stH_o (by omega)
end HOLD
