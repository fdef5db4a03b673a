/-! THE REFERENCE'S READERS -/
section MREAD
variable {h : Hp}
theorem m_rooms (s : Sh h) : F_X12_rooms 59 h = some (zI h 60 0) := by
  unfold F_X12_rooms F_X12_rooms_b0
  unfold Sh at s
  simp (disch := omega) only [s, gd_t, ob_s, ob2_s, ob4_s, sm_l, sm_r, ac_s, decide_true, decide_false, eq_self, ne_eq, not_false_eq_true, not_true_eq_false, if_true, if_false, ite_true, ite_false, reduceIte, or_true, true_or, or_false, false_or, and_true, true_and, Bool.false_eq_true, reduceCtorEq, nle_t, nle_f, nlt_t, nlt_f, neq_t, neq_f, ix_t, ncl, nadd, nmul, nl_0]
theorem m_guests (s : Sh h) : F_X12_guests 59 h = some (zI h 60 1) := by
  unfold F_X12_guests F_X12_guests_b0
  unfold Sh at s
  simp (disch := omega) only [s, gd_t, ob_s, ob2_s, ob4_s, sm_l, sm_r, ac_s, decide_true, decide_false, eq_self, ne_eq, not_false_eq_true, not_true_eq_false, if_true, if_false, ite_true, ite_false, reduceIte, or_true, true_or, or_false, false_or, and_true, true_and, Bool.false_eq_true, reduceCtorEq, nle_t, nle_f, nlt_t, nlt_f, neq_t, neq_f, ix_t, ncl, nadd, nmul, nl_1]
theorem m_trunks (s : Sh h) : F_X12_trunks 59 h = some (zI h 60 2) := by
  unfold F_X12_trunks F_X12_trunks_b0
  unfold Sh at s
  simp (disch := omega) only [s, gd_t, ob_s, ob2_s, ob4_s, sm_l, sm_r, ac_s, decide_true, decide_false, eq_self, ne_eq, not_false_eq_true, not_true_eq_false, if_true, if_false, ite_true, ite_false, reduceIte, or_true, true_or, or_false, false_or, and_true, true_and, Bool.false_eq_true, reduceCtorEq, nle_t, nle_f, nlt_t, nlt_f, neq_t, neq_f, ix_t, ncl, nadd, nmul, nl_2]
theorem m_ofRoom (s : Sh h) {r k : Nat} (hr : r < 1000) (hk : k < 4) : F_X12_ofRoom 59 (nI r) (nI k) h = some (zI h 60 (11 + 4 * r + k)) := by
  unfold F_X12_ofRoom F_X12_ofRoom_b0
  unfold Sh at s
  simp (disch := omega) only [s, gd_t, ob_s, ob2_s, ob4_s, sm_l, sm_r, ac_s, decide_true, decide_false, eq_self, ne_eq, not_false_eq_true, not_true_eq_false, if_true, if_false, ite_true, ite_false, reduceIte, or_true, true_or, or_false, false_or, and_true, true_and, Bool.false_eq_true, reduceCtorEq, nle_t, nle_f, nlt_t, nlt_f, neq_t, neq_f, ix_t, ncl, nadd, nmul, nl_11, nl_4]
theorem m_weightOf (s : Sh h) {g : Nat} (hg : g < 1000) : F_X12_weightOf 59 (nI g) h = some (zI h 60 (43 + 2 * g)) := by
  unfold F_X12_weightOf F_X12_weightOf_b0
  unfold Sh at s
  simp (disch := omega) only [s, gd_t, ob_s, ob2_s, ob4_s, sm_l, sm_r, ac_s, decide_true, decide_false, eq_self, ne_eq, not_false_eq_true, not_true_eq_false, if_true, if_false, ite_true, ite_false, reduceIte, or_true, true_or, or_false, false_or, and_true, true_and, Bool.false_eq_true, reduceCtorEq, nle_t, nle_f, nlt_t, nlt_f, neq_t, neq_f, ix_t, ncl, nadd, nmul, nl_43, nl_2]
theorem m_roomOf (s : Sh h) {g : Nat} (hg : g < 1000) : F_X12_roomOf 59 (nI g) h = some (zI h 60 (44 + 2 * g)) := by
  unfold F_X12_roomOf F_X12_roomOf_b0
  unfold Sh at s
  simp (disch := omega) only [s, gd_t, ob_s, ob2_s, ob4_s, sm_l, sm_r, ac_s, decide_true, decide_false, eq_self, ne_eq, not_false_eq_true, not_true_eq_false, if_true, if_false, ite_true, ite_false, reduceIte, or_true, true_or, or_false, false_or, and_true, true_and, Bool.false_eq_true, reduceCtorEq, nle_t, nle_f, nlt_t, nlt_f, neq_t, neq_f, ix_t, ncl, nadd, nmul, nl_43, nl_2, nl_1]
  rw [show 43 + 2 * g + 1 = 44 + 2 * g by omega]
theorem m_ofTrunk (s : Sh h) {t k : Nat} (ht : t < 1000) (hk : k < 3) : F_X12_ofTrunk 59 (nI t) (nI k) h = some (zI h 60 (53 + 3 * t + k)) := by
  unfold F_X12_ofTrunk F_X12_ofTrunk_b0
  unfold Sh at s
  simp (disch := omega) only [s, gd_t, ob_s, ob2_s, ob4_s, sm_l, sm_r, ac_s, decide_true, decide_false, eq_self, ne_eq, not_false_eq_true, not_true_eq_false, if_true, if_false, ite_true, ite_false, reduceIte, or_true, true_or, or_false, false_or, and_true, true_and, Bool.false_eq_true, reduceCtorEq, nle_t, nle_f, nlt_t, nlt_f, neq_t, neq_f, ix_t, ncl, nadd, nmul, nl_53, nl_3]
theorem m_in (v a b : Int32) : F_X12_in v a b h = some (b2 (!decide (v < a) && !decide (b < v))) := by
  unfold F_X12_in F_X12_in_b0 F_X12_in_b14 F_X12_in_b15
  by_cases h1 : v < a
  · rw [if_pos h1, z_g]
    simp [h1, b2]
  · by_cases h2 : b < v
    · rw [if_neg h1, if_pos h2, z_g]
      simp [h1, h2, b2]
    · rw [if_neg h1, if_neg h2, o_g]
      simp [h1, h2, b2]
/-- what is told is from 0 to below n -/
def isIn (v : Int32) (n : Nat) : Bool := !decide (v < 0) && decide (v.toNatClampNeg < n)
theorem isIn_of {v : Int32} {n : Nat} (hn : n < 2147483648) (q : isIn v n = true) : ∃ j, j < n ∧ v = nI j := by
  unfold isIn at q
  rw [Bool.and_eq_true] at q
  have h1 : ¬ v < 0 := by simpa using q.1
  obtain ⟨j, hj, rfl⟩ := nI_of h1
  rw [nI_clamp hj] at q
  exact ⟨j, by simpa using q.2, rfl⟩
theorem isIn_eq {v : Int32} {n : Nat} (hn : n < 2147483648) : (!decide (v < 0) && !decide (nI n - 1 < v)) = isIn v n := by
  unfold isIn
  by_cases h1 : v < 0
  · simp [h1]
  · obtain ⟨j, hj, rfl⟩ := nI_of h1
    rw [nI_clamp hj]
    simp only [h1, decide_false, Bool.not_false, Bool.true_and]
    cases n with
    | zero =>
      have : nI 0 - 1 < nI j := by
        rw [fa_lt, nI_toInt hj]
        have : (nI 0 - 1).toInt = -1 := rfl
        omega
      simp [this]
    | succ m =>
      rw [nI_pred]
      by_cases q : j < m + 1
      · have : ¬ nI m < nI j := nI_nlt (by omega) (by omega)
        simp [this, q]
      · have : nI m < nI j := nI_lt (by omega) hj
        simp [this, q]
theorem isIn_nI {j n : Nat} (hj : j < n) (hn : n < 2147483648) : isIn (nI j) n = true := by
  unfold isIn
  rw [nI_clamp (by omega)]
  simp [nI_pos (show j < 2 ^ 31 by omega), hj]
theorem m_noRoom (s : Sh h) (i : Inv (zI h 60)) (v : Int32) : F_X12_noRoom 59 v h = some (b2 (!isIn v (nR (zI h 60)))) := by
  unfold F_X12_noRoom F_X12_noRoom_b0 F_X12_noRoom_b19
  have e1 := m_rooms s
  have e2 := i.1.1
  have e3 := i.1.2
  have k : kd h 59 = 11 := by unfold Sh at s; simp only [s]
  rw [e1, ob_s, gd_d k, m_in, ob_s, e2, isIn_eq (by omega), z_g, o_g]
  cases isIn v (nR (zI h 60)) <;> rfl
theorem m_noGuest (s : Sh h) (i : Inv (zI h 60)) (v : Int32) : F_X12_noGuest 59 v h = some (b2 (!isIn v (nG (zI h 60)))) := by
  unfold F_X12_noGuest F_X12_noGuest_b0 F_X12_noGuest_b19
  have e1 := m_guests s
  have e2 := i.2.1.1
  have e3 := i.2.1.2
  have k : kd h 59 = 11 := by unfold Sh at s; simp only [s]
  rw [e1, ob_s, gd_d k, m_in, ob_s, e2, isIn_eq (by omega), z_g, o_g]
  cases isIn v (nG (zI h 60)) <;> rfl
theorem m_noTrunk (s : Sh h) (i : Inv (zI h 60)) (v : Int32) : F_X12_noTrunk 59 v h = some (b2 (!isIn v (nT (zI h 60)))) := by
  unfold F_X12_noTrunk F_X12_noTrunk_b0 F_X12_noTrunk_b19
  have e1 := m_trunks s
  have e2 := i.2.2.1.1
  have e3 := i.2.2.1.2
  have k : kd h 59 = 11 := by unfold Sh at s; simp only [s]
  rw [e1, ob_s, gd_d k, m_in, ob_s, e2, isIn_eq (by omega), z_g, o_g]
  cases isIn v (nT (zI h 60)) <;> rfl
theorem m_throwsIf (s : Sh h) (b : Bool) (k : Int32) : F_X12_throwsIf 59 (b2 b) k h = some (b2 b, if b then setI h 59 0 k else h) := by
  unfold F_X12_throwsIf F_X12_throwsIf_b0 F_X12_throwsIf_b9
  have hk : kd h 59 = 11 := by unfold Sh at s; simp only [s]
  rw [gd_d hk, b2_g]
  cases b with
  | true => rw [b2_g, if_neg (by decide)]; rfl
  | false => rfl
theorem m_farOf (x y : Int32) : F_X12_farOf x y h = some (jabs x + jabs y) := rfl
end MREAD
