/-! THE CALLS THAT ONLY READ -/
section EASY
variable {h : Hp}
/-- the reference has forgotten what it threw -/
def t0 (h : Hp) : Hp := setI h 59 0 (0 : Int32)
def tk (h : Hp) (k : Int32) : Hp := setI (t0 h) 59 0 k
theorem t0_s (s : Sh h) : Sh (t0 h) := Sh_w s _
theorem tk_s (s : Sh h) (k : Int32) : Sh (tk h k) := Sh_w s _
theorem t0_o {a : Nat} (ha : a ≠ 59) : zI (t0 h) a = zI h a := su_n ha
theorem tk_o {a : Nat} {k : Int32} (ha : a ≠ 59) : zI (tk h k) a = zI h a := (su_n ha).trans (su_n ha)
theorem t0_i (i : Inv (zI h 60)) : Inv (zI (t0 h) 60) := by rw [t0_o (by decide)]; exact i
theorem t0_m : MN (zI h) (zI (t0 h)) := fun a k q => by
  by_cases ha : a = 59
  · subst ha
    by_cases hk : k = 0
    · subst hk
      exact absurd (Or.inl ⟨rfl, by decide, by decide, by decide⟩) q
    · exact su_k hk
  · rw [t0_o ha]
theorem tk_m {c : Int32} : MN (zI h) (zI (tk h c)) := fun a k q => by
  by_cases ha : a = 59
  · subst ha
    by_cases hk : k = 0
    · subst hk
      exact absurd (Or.inl ⟨rfl, by decide, by decide, by decide⟩) q
    · exact (su_k hk).trans (su_k hk)
  · rw [tk_o ha]
theorem t0_z : zI (t0 h) 59 0 = 0 := su_e
theorem tk_z {c : Int32} : zI (tk h c) 59 0 = c := su_e
theorem t0_w : t0 h = wI h (zI (t0 h)) := rfl
theorem tk_w {c : Int32} : tk h c = wI h (zI (tk h c)) := rfl
theorem MN_t {I J K : Nat → Nat → Int32} (a : MN I J) (b : MN J K) : MN I K := fun p k q => (b p k q).trans (a p k q)
theorem hSit_m : MN (zI h) (zI (hSit h)) := fun a k q => by
  by_cases ha : a = 66
  · subst ha
    exact absurd (Or.inr (Or.inr (Or.inr ⟨by decide, by decide⟩))) q
  · rw [hSit_o ha]
theorem hSit_w : hSit h = wI h (zI (hSit h)) := rfl
theorem hSit_z : zI (hSit h) 59 0 = zI h 59 0 := by rw [hSit_o (by decide)]
theorem k0 (s : Sh h) : kd h 0 = 10 := by unfold Sh at s; simp only [s]
theorem r0_1 (s : Sh h) : zR h 0 1 = some 3 := by unfold Sh at s; simp only [s]
theorem k72 (s : Sh h) : kd h 72 = 16 := by unfold Sh at s; simp only [s]
theorem l72 (s : Sh h) : zl h 72 = 1 := by unfold Sh at s; simp only [s]
theorem ix00 : ix 0 1 = true := by decide
/-- out[0] = the answer -/
theorem put_out (s : Sh h) (r : Int32) : (gd (decide (kd h 72 = 16)) <| gd (ix 0 (zl h 72)) <| some ((0 : Int32), setL h 72 ((0 : Int32)).toNatClampNeg r.toInt64, 0, 0)) = some ((0 : Int32), setL h 72 0 r.toInt64, 0, 0) := by
  rw [gd_d (k72 s), l72 s, ix00, gd_t]
  rfl
theorem notIn {v : Int32} {n : Nat} (q : isIn v n = false) (hn : n < 2147483648) {j : Nat} (e : v = nI j) (hj : j < n) : False := by
  rw [e, isIn_nI hj hn] at q
  cases q
-- where
theorem m_where (s : Sh h) (i : Inv (zI h 60)) (v : Int32) : F_X12_where 59 v h = if isIn v (nG (zI h 60)) then some (zI h 60 (44 + 2 * v.toNatClampNeg), t0 h) else some (0, tk h 1) := by
  unfold F_X12_where F_X12_where_b0 F_X12_where_b27
  have g5 := iG5 i
  rw [gd_d (k59 s)]
  change ob (F_X12_noGuest 59 v (t0 h)) (fun r3 => ob2 (F_X12_throwsIf 59 r3 1 (t0 h)) _) = _
  rw [m_noGuest (t0_s s) (t0_i i), ob_s, m_throwsIf (t0_s s), ob2_s, t0_o (by decide)]
  cases q : isIn v (nG (zI h 60)) with
  | false => rfl
  | true =>
    obtain ⟨j, hj, rfl⟩ := isIn_of (by omega) q
    rw [Bool.not_true, b2_f, if_pos rfl, if_pos rfl, if_neg (by decide), m_roomOf (t0_s s) (by omega), ob_s, gd_d (k59 (t0_s s)), t0_o (by decide), nI_clamp (by omega)]
theorem j_where (g : GS h) (v : Int32) : JB h (F_L_where 0 v 72) (F_X12_where 59 v) := by
  obtain ⟨s, i, c, -⟩ := id g
  have g5 := iG5 i
  have e : F_X11_where 0 v h = if isIn v (nG (zI h 60)) then some (.inl (zI h 60 (44 + 2 * v.toNatClampNeg)), h, 0, 0) else some (.inr 2, h, 1, 6) := by
    unfold F_X11_where F_X11_where_b0
    rw [gd_d (k0 s), r0_1 s, ob_s, x_hasGuest s i c, ob_s, gd_d (k3 s)]
    cases q : isIn v (nG (zI h 60)) with
    | false => rfl
    | true =>
      obtain ⟨j, hj, rfl⟩ := isIn_of (by omega) q
      rw [b2_t, if_neg (by decide), if_pos rfl, ob_s, gd_d (k3 s), r3_7 s, ob_s, gd_d (k9 s), l9 s, ix_t (by omega) (by omega), gd_t, nI_clamp (by omega), (c.2.2.1 j (by omega)).2]
  cases q : isIn v (nG (zI h 60)) with
  | false =>
    rw [q, if_neg (by decide)] at e
    refine JB_t g (k := 1) (by decide) ?_ ⟨0, zI (tk h 1), ?_, tk_m, tk_z⟩
    · unfold F_L_where
      rw [gd_d (k0 s), e, ob4_s]
      rfl
    · rw [m_where s i, q, if_neg (by decide)]
      rfl
  | true =>
    rw [q, if_pos rfl] at e
    refine JB_r g (r := zI h 60 (44 + 2 * v.toNatClampNeg)) ?_ ⟨zI (t0 h), ?_, t0_m, t0_z⟩
    · unfold F_L_where
      rw [gd_d (k0 s), e, ob4_s]
      exact put_out s _
    · have := m_where (h := setL h 72 0 (zI h 60 (44 + 2 * v.toNatClampNeg)).toInt64) s i v
      rw [this]
      show (if isIn v (nG (zI h 60)) then _ else _) = _
      rw [q, if_pos rfl]
      rfl
end EASY
