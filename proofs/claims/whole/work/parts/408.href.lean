/-! THE CALL house: the reference -/
section HREF
variable {h hM : Hp} {K K' : Nat → Nat → Int32} {G G' : Nat → Int32} {p' f g' : Nat}
theorem h_l7 (s : Sh h) (J : Nat → Nat → Int32) {j : Nat} (hj : j < 4232) : F_X12_house_l7 59 (nI j) (wI h (cpT J 60 62 j)) = some (.inl (nI (j + 1), wI h (cpT J 60 62 (j + 1)))) := by
  unfold F_X12_house_l7
  rw [nl_4232, if_neg (nI_ge hj (by omega)), nl_1]
  simp only [wI_R, wI_k, wI_l, wI_I, sI_w, k59 s, r59_1 s, r59_3 s, k60 s, l60 s, (k62 s).1, (k62 s).2, ix_t hj (show 4232 < 2147483648 by omega), ix_t (show j < 5049 by omega) (show 5049 < 2147483648 by omega), ncl (show j < 2147483648 by omega), nadd, cpT_s J j (show 60 ≠ 62 by decide), gd_t, ob_s, ob2_s, ob4_s, sm_l, sm_r, ac_s, decide_true, decide_false, eq_self, ne_eq, not_false_eq_true, not_true_eq_false, if_true, if_false, ite_true, ite_false, reduceIte, or_true, true_or, or_false, false_or, and_true, true_and, Bool.false_eq_true, reduceCtorEq]
theorem h_it (s : Sh h) (J : Nat → Nat → Int32) : iter (fun z : Int32 × Hp => F_X12_house_l7 59 z.1 z.2) FU ((0 : Int32), wI h J) = some (wI h (cpT J 60 62 4232)) := by
  refine iter_at (fun j => (nI j, wI h (cpT J 60 62 j))) 4232 (wI h (cpT J 60 62 4232)) (by rw [cpT_0]; rfl) (fun j hj => h_l7 s J hj) ?_ (FU_lt (by omega))
  show F_X12_house_l7 59 (nI 4232) _ = _
  unfold F_X12_house_l7
  rw [nl_4232, if_pos (nI_le (Nat.le_refl _) (by omega))]
theorem h_l97 (s : Sh h) (J : Nat → Nat → Int32) {j : Nat} (hj : j < 4232) : F_X12_house_l97 59 (nI j) (wI h (cpT J 62 60 j)) = some (.inl (nI (j + 1), wI h (cpT J 62 60 (j + 1)))) := by
  unfold F_X12_house_l97
  rw [nl_4232, if_neg (nI_ge hj (by omega)), nl_1]
  simp only [wI_R, wI_k, wI_l, wI_I, sI_w, k59 s, r59_1 s, r59_3 s, k60 s, l60 s, (k62 s).1, (k62 s).2, ix_t hj (show 4232 < 2147483648 by omega), ix_t (show j < 5049 by omega) (show 5049 < 2147483648 by omega), ncl (show j < 2147483648 by omega), nadd, cpT_s J j (show 62 ≠ 60 by decide), gd_t, ob_s, ob2_s, ob4_s, sm_l, sm_r, ac_s, decide_true, decide_false, eq_self, ne_eq, not_false_eq_true, not_true_eq_false, if_true, if_false, ite_true, ite_false, reduceIte, or_true, true_or, or_false, false_or, and_true, true_and, Bool.false_eq_true, reduceCtorEq]
theorem h_it2 (s : Sh h) (J : Nat → Nat → Int32) : iter (fun z : Int32 × Hp => F_X12_house_l97 59 z.1 z.2) FU ((0 : Int32), wI h J) = some (wI h (cpT J 62 60 4232)) := by
  refine iter_at (fun j => (nI j, wI h (cpT J 62 60 j))) 4232 (wI h (cpT J 62 60 4232)) (by rw [cpT_0]; rfl) (fun j hj => h_l97 s J hj) ?_ (FU_lt (by omega))
  show F_X12_house_l97 59 (nI 4232) _ = _
  unfold F_X12_house_l97
  rw [nl_4232, if_pos (nI_le (Nat.le_refl _) (by omega))]
theorem cpT_va {J : Nat → Nat → Int32} {a c j d : Nat} {g : Nat → Int32} (h1 : d ≠ a) (h2 : d ≠ c) : cpT (va_up J d g) a c j = va_up (cpT J a c j) d g := by
  funext x k
  by_cases e : x = d
  · subst e
    rw [va_e, cpT_a _ _ h2, va_e]
  · rw [va_n _ _ _ _ e]
    by_cases e2 : x = c
    · subst e2
      rw [cpT_b, cpT_b, va_n _ _ _ _ (fun q => h1 q.symm), va_n _ _ _ _ e]
    · rw [cpT_a _ _ e2, cpT_a _ _ e2, va_n _ _ _ _ e]
/-- the world is kept, then read -/
theorem hr_head (s : Sh hM) : F_X12_house 59 (wI hM K) = ob2 (F_X12_readAll 59 0 (rfS hM (cpT K 60 62 4232) (va_up (K 59) 0 0))) fun r14 h15 => (if 0 ≤ r14 then F_X12_house_b51 59 r14 59 (-1 : Int32) h15 else gd (decide (kd h15 59 = 11)) <| F_X12_house_b51 59 r14 59 (zI h15 59 9) h15) := by
  unfold F_X12_house F_X12_house_b0
  rw [wI_k, gd_d (k59 s), th0_m hM]
  unfold rfS
  rw [h_it s, ob_s, cpT_va (by decide) (by decide)]
  simp only [wI_k, k59 s, gd_t, ob_s, ob2_s, ob4_s, sm_l, sm_r, ac_s, decide_true, decide_false, eq_self, ne_eq, not_false_eq_true, not_true_eq_false, if_true, if_false, ite_true, ite_false, reduceIte, or_true, true_or, or_false, false_or, and_true, true_and, Bool.false_eq_true, reduceCtorEq]
theorem hr_0 (s : Sh hM) (e : F_X12_readAll 59 0 (rfS hM (cpT K 60 62 4232) (va_up (K 59) 0 0)) = some (-1, rfT hM K' G' p' f)) : F_X12_house 59 (wI hM K) = some (0, rfS hM (cpT K' 62 60 4232) (va_up (va_up (rF G' p' f) 11 (nI f)) 0 1)) := by
  rw [hr_head s, e, ob2_s, if_neg (by decide), m_k, gd_d (k59 s), m_r9]
  unfold F_X12_house_b51
  rw [m_k, gd_d (k59 s), if_neg (by decide)]
  unfold rfT
  rw [rfS_set]
  unfold F_X12_house_b64
  have s2 : Sh (rfS hM K' (va_up (rF G' p' f) 11 (nI f))) := s
  rw [m_thr1 s2, ob2_s, rfS_k, gd_d (k59 s), if_neg (by decide), rfS_set]
  unfold F_X12_house_b95
  unfold rfS
  rw [h_it2 s, ob_s, cpT_va (by decide) (by decide)]
theorem hr_2 (s : Sh hM) {i' : Nat} (hi : i' < 100) (e : F_X12_readAll 59 0 (rfS hM (cpT K 60 62 4232) (va_up (K 59) 0 0)) = some (nI i', rfT hM K' G' p' g')) (e3 : K' 60 3 = 10) : F_X12_house 59 (wI hM K) = some (0, rfS hM (cpT K' 62 60 4232) (va_up (va_up (rF G' p' g') 11 (-1)) 0 2)) := by
  rw [hr_head s, e, ob2_s, if_pos (nI_pos' (by omega))]
  unfold F_X12_house_b51
  rw [m_k, gd_d (k59 s), if_pos (nI_pos' (by omega))]
  unfold rfT
  rw [rfS_set]
  unfold F_X12_house_b64
  have s2 : Sh (rfS hM K' (va_up (rF G' p' g') 11 (-1))) := s
  rw [m_thr0 s2, ob2_s, rfS_k, gd_d (k59 s), if_pos rfl, gd_d (k59 s), rfS_R, r59_1 s, ob_s, rfS_k, gd_d (k60 s), rfS_l, l60 s, show ix (3 : Int32) 5049 = true from by decide, gd_t, show ((3 : Int32)).toNatClampNeg = 3 from rfl, rfS_a _ (by decide), e3, if_pos rfl]
  unfold F_X12_house_b88
  rw [m_thr1 s2, ob2_s, rfS_k, gd_d (k59 s), if_neg (by decide), rfS_set]
  unfold F_X12_house_b95
  unfold rfS
  rw [h_it2 s, ob_s, cpT_va (by decide) (by decide)]
theorem hr_1 (s : Sh hM) {i' x : Nat} (hi : i' < 100) (hx : x < 10) (e : F_X12_readAll 59 0 (rfS hM (cpT K 60 62 4232) (va_up (K 59) 0 0)) = some (nI i', rfT hM K' G' p' g')) (e3 : K' 60 3 = nI x) : F_X12_house 59 (wI hM K) = some (nI (x + 1), rfS hM (up2 K' 60 3 (nI (x + 1))) (va_up (rF G' p' g') 11 (-1))) := by
  have n10 : ¬ nI x = (10 : Int32) := fun q => absurd ((nI_eq (b := 10) (by omega) (by omega)).mp q) (by omega)
  rw [hr_head s, e, ob2_s, if_pos (nI_pos' (by omega))]
  unfold F_X12_house_b51
  rw [m_k, gd_d (k59 s), if_pos (nI_pos' (by omega))]
  unfold rfT
  rw [rfS_set]
  unfold F_X12_house_b64
  have s2 : Sh (rfS hM K' (va_up (rF G' p' g') 11 (-1))) := s
  rw [m_thr0 s2, ob2_s, rfS_k, gd_d (k59 s), if_pos rfl, gd_d (k59 s), rfS_R, r59_1 s, ob_s, rfS_k, gd_d (k60 s), rfS_l, l60 s, show ix (3 : Int32) 5049 = true from by decide, gd_t, show ((3 : Int32)).toNatClampNeg = 3 from rfl, rfS_a _ (by decide), e3, if_neg n10]
  unfold F_X12_house_b88
  rw [m_thr0 s2, ob2_s, rfS_k, gd_d (k59 s), if_pos rfl]
  simp only [rfS_k, rfS_R, rfS_l, k59 s, r59_1 s, k60 s, l60 s, show ix (3 : Int32) 5049 = true from by decide, show ((3 : Int32)).toNatClampNeg = 3 from rfl, rfS_a _ (show 60 ≠ 59 by decide), e3, nS_1, rfS_seta _ _ (show 60 ≠ 59 by decide), up2_e, gd_t, ob_s, ob2_s, ob4_s, sm_l, sm_r, ac_s, decide_true, decide_false, eq_self, ne_eq, not_false_eq_true, not_true_eq_false, if_true, if_false, ite_true, ite_false, reduceIte, or_true, true_or, or_false, false_or, and_true, true_and, Bool.false_eq_true, reduceCtorEq]
end HREF
