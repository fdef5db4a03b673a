/-! THE HOUSE'S LINES: all that are kept are told -/
section TELLT
variable {h : Hp} {f : Nat → Int32} {J : Nat → Nat → Int32}
/-- the number that stands for v -/
def nN (v : Int32) : Nat := v.toBitVec.toNat
theorem nN_I (v : Int32) : nI (nN v) = v := by
  apply Int32.toBitVec_inj.mp
  show BitVec.ofNat 32 v.toBitVec.toNat = v.toBitVec
  rw [BitVec.ofNat_toNat, BitVec.setWidth_eq]
theorem nN_n {a : Nat} (h : a < 4294967296) : nN (nI a) = a := by
  show (BitVec.ofNat 32 a).toNat = a
  rw [BitVec.toNat_ofNat]
  exact Nat.mod_eq_of_lt h
def foldW (R : Nat → Int32) (f : Nat → Int32) : Nat → Nat → Int32
  | 0 => f
  | j + 1 => tellW (foldW R f j) (nN (R (4 * j))) (nN (R (4 * j + 1))) (nN (R (4 * j + 2))) (nN (R (4 * j + 3)))
def okR (R : Nat → Int32) (f : Nat → Int32) (i : Nat) : Prop := ∀ j, j < i → okRow (foldW R f j) (nN (R (4 * j))) (nN (R (4 * j + 1))) (nN (R (4 * j + 2))) (nN (R (4 * j + 3)))
theorem foldW_c {R R2 : Nat → Int32} : ∀ i, (∀ x, x < 4 * i → R2 x = R x) → foldW R2 f i = foldW R f i
  | 0, _ => rfl
  | i + 1, e => by
    show tellW (foldW R2 f i) _ _ _ _ = tellW (foldW R f i) _ _ _ _
    rw [foldW_c i (fun x hx => e x (by omega)), e _ (by omega), e _ (by omega), e _ (by omega), e _ (by omega)]
theorem okR_c {R R2 : Nat → Int32} {i : Nat} (e : ∀ x, x < 4 * i → R2 x = R x) (o : okR R f i) : okR R2 f i := fun j hj => by
  rw [foldW_c j (fun x hx => e x (by omega)), e _ (by omega), e _ (by omega), e _ (by omega), e _ (by omega)]
  exact o j hj
theorem Inv_fold {R : Nat → Int32} (i : Inv f) : ∀ m, okR R f m → Inv (foldW R f m)
  | 0, _ => i
  | m + 1, o => Inv_tell (Inv_fold i m (fun j hj => o j (by omega))) (o m (by omega))
theorem k36 (s : Sh h) : kd h 36 = 3 ∧ zR h 36 1 = some 37 ∧ kd h 37 = 13 ∧ zl h 37 = 56 := by unfold Sh at s; simp only [s, and_self]
theorem x_tellTo (s : Sh h) (i : Inv f) (c : HR J 3 f) {m : Nat} (hm : m ≤ 14) (e0 : J 36 0 = nI m) (o : okR (J 37) f m) : ∃ J', F_X3_tellTo 36 3 (wI h J) = some ((), wI h J') ∧ HR J' 3 (foldW (J 37) f m) ∧ ∀ x, (x < 3 ∨ 36 ≤ x) → J' x = J x := by
  obtain ⟨a1, a2, a3, a4⟩ := k36 s
  have key := iter_cnt (body := fun z : Int32 × Hp => F_X3_tellTo_l2 36 3 z.1 z.2) (s0 := ((0 : Int32), wI h J)) (fun j z => ∃ J', z = (nI j, wI h J') ∧ HR J' 3 (foldW (J 37) f j) ∧ ∀ x, (x < 3 ∨ 36 ≤ x) → J' x = J x) (fun z => ∃ J', z = wI h J' ∧ HR J' 3 (foldW (J 37) f m) ∧ ∀ x, (x < 3 ∨ 36 ≤ x) → J' x = J x) m (fun j z hj hI => ?_) (fun z hI => ?_) ⟨J, rfl, c, fun _ _ => rfl⟩ (fuel := FU) (FU_lt (by omega))
  · obtain ⟨z, z1, J', z2, z3, z4⟩ := key
    refine ⟨J', ?_, z3, z4⟩
    unfold F_X3_tellTo F_X3_tellTo_b0
    rw [z1, ob_s, z2]
    rfl
  · obtain ⟨J1, rfl, c1, fr⟩ := hI
    obtain ⟨J2, t1, t2, t3⟩ := tl_all s (Inv_fold i j (fun x hx => o x (by omega))) c1 (o j hj)
    rw [nN_I, nN_I, nN_I, nN_I] at t1
    refine ⟨(nI (j + 1), wI h J2), ?_, J2, rfl, t2, fun x hx => (t3 x hx).trans (fr x hx)⟩
    show F_X3_tellTo_l2 36 3 (nI j) (wI h J1) = _
    have e1 : J1 36 0 = nI m := by rw [fr 36 (by omega)]; exact e0
    have e37 : J1 37 = J 37 := fr 37 (by omega)
    unfold F_X3_tellTo_l2
    rw [wI_k, gd_d a1, wI_I, e1, if_neg (nI_ge hj (by omega)), nl_14, if_neg (nI_ge (show j < 14 by omega) (by omega)), nl_4, nmul, show j * 4 = 4 * j by omega]
    simp only [wI_k, wI_R, wI_l, wI_I, a2, a3, a4, e37, nS_1, nS_2, show nI (4 * j) + 3 = nI (4 * j + 3) from nadd _ 3, ix_t (show 4 * j < 56 by omega) (show 56 < 2147483648 by omega), ix_t (show 4 * j + 1 < 56 by omega) (show 56 < 2147483648 by omega), ix_t (show 4 * j + 2 < 56 by omega) (show 56 < 2147483648 by omega), ix_t (show 4 * j + 3 < 56 by omega) (show 56 < 2147483648 by omega), ncl (show 4 * j < 2147483648 by omega), ncl (show 4 * j + 1 < 2147483648 by omega), ncl (show 4 * j + 2 < 2147483648 by omega), ncl (show 4 * j + 3 < 2147483648 by omega), t1, gd_t, ob_s, ob2_s, ob4_s, sm_l, sm_r, ac_s, decide_true, decide_false, eq_self, ne_eq, not_false_eq_true, not_true_eq_false, if_true, if_false, ite_true, ite_false, reduceIte, or_true, true_or, or_false, false_or, and_true, true_and, Bool.false_eq_true, reduceCtorEq]
  · obtain ⟨J1, rfl, c1, fr⟩ := hI
    refine ⟨wI h J1, ?_, J1, rfl, c1, fr⟩
    show F_X3_tellTo_l2 36 3 (nI m) (wI h J1) = _
    have e1 : J1 36 0 = nI m := by rw [fr 36 (by omega)]; exact e0
    unfold F_X3_tellTo_l2
    rw [wI_k, gd_d a1, wI_I, e1, if_pos (nI_le (Nat.le_refl _) (by omega))]
end TELLT
