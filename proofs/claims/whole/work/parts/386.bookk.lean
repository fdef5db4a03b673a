/-! THE CALL book, when the text is right -/
section BOOKK
variable {h : Hp} {b : Nat → Int32} {n : Nat} {F : Nat → Int32}
theorem rBk_o {J : Nat → Nat → Int32} {a : Nat} (ha : a < 15 ∨ 18 < a) : rBk J 15 41 a = J a := by
  unfold rBk cpV cpO
  rw [va_n _ _ _ _ (by omega), va_n _ _ _ _ (by omega), va_n _ _ _ _ (by omega), up2_a _ _ _ _ _ (by omega)]
theorem rBk_0 {J : Nat → Nat → Int32} : rBk J 15 41 15 0 = J 41 0 := by
  unfold rBk cpV
  rw [va_n _ _ _ _ (by decide), va_n _ _ _ _ (by decide), va_n _ _ _ _ (by decide)]
  exact up2_e _ _ _ _
theorem rBk_1 {J : Nat → Nat → Int32} {k : Nat} (hk : k < 20) : rBk J 15 41 16 k = J 42 k := by
  unfold rBk cpV
  rw [va_n _ _ _ _ (by decide), va_n _ _ _ _ (by decide)]
  show va_up (cpO J 15 41 0) 16 (va_cpy (cpO J 15 41 0 42) (cpO J 15 41 0 16) 0 0 20) 16 k = _
  rw [va_e, pk_cpy_in (by omega) (by omega), show 0 + (k - 0) = k by omega]
  unfold cpO
  rw [up2_a _ _ _ _ _ (by decide)]
theorem rBk_2 {J : Nat → Nat → Int32} {k : Nat} (hk : k < 20) : rBk J 15 41 17 k = J 43 k := by
  unfold rBk
  generalize e : cpV (cpO J 15 41 0) (15 + 1) (41 + 1) 20 = X
  have x : X 43 = J 43 := by
    rw [← e]
    unfold cpV cpO
    rw [va_n _ _ _ _ (by decide), up2_a _ _ _ _ _ (by decide)]
  unfold cpV
  rw [va_n _ _ _ _ (by decide)]
  show va_up X 17 (va_cpy (X 43) (X 17) 0 0 20) 17 k = _
  rw [va_e, pk_cpy_in (by omega) (by omega), show 0 + (k - 0) = k by omega, x]
theorem rBk_3 {J : Nat → Nat → Int32} {k : Nat} (hk : k < 20) : rBk J 15 41 18 k = J 44 k := by
  unfold rBk
  generalize e : cpV (cpV (cpO J 15 41 0) (15 + 1) (41 + 1) 20) (15 + 2) (41 + 2) 20 = X
  have x : X 44 = J 44 := by
    rw [← e]
    unfold cpV cpO
    rw [va_n _ _ _ _ (by decide), va_n _ _ _ _ (by decide), up2_a _ _ _ _ _ (by decide)]
  unfold cpV
  show va_up X 18 (va_cpy (X 44) (X 18) 0 0 20) 18 k = _
  rw [va_e, pk_cpy_in (by omega) (by omega), show 0 + (k - 0) = k by omega, x]
theorem bk_c1 (s : Sh h) {J' : Nat → Nat → Int32} {q' i' : Nat} {t' : Int32} (e : F_X7_readLines_k0 41 1 3 20 h = some (1, cT h (zI h 2) n J' (zI h 1) q' t' (-1))) (e0 : J' 41 0 = nI i') : F_L_book 0 72 h = some (0, setL (wI h (rBk (va_up J' 1 (va_up (tF (zI h 2) n (zI h 1) q' t' (-1)) 1 0)) 15 41)) 72 0 (nI i').toInt64, 0, 0) := by
  have b15 : BSh h 15 := HS_B (HS_3 s)
  have b41 : BSh h 41 := k41 s
  have x : F_X11_book 0 h = some (.inl (nI i'), wI h (rBk (va_up J' 1 (va_up (tF (zI h 2) n (zI h 1) q' t' (-1)) 1 0)) 15 41), 0, 0) := by
    have ec := x_cpB b15 b41 (va_up J' 1 (va_up (tF (zI h 2) n (zI h 1) q' t' (-1)) 1 0))
    have er : rBk (va_up J' 1 (va_up (tF (zI h 2) n (zI h 1) q' t' (-1)) 1 0)) 15 41 41 0 = nI i' := by
      rw [rBk_o (by omega), va_n _ _ _ _ (by decide)]
      exact e0
    have es : setI (cT h (zI h 2) n J' (zI h 1) q' t' (-1)) 1 1 0 = wI h (va_up J' 1 (va_up (tF (zI h 2) n (zI h 1) q' t' (-1)) 1 0)) := by
      unfold cT
      rw [cS_set]
      rfl
    unfold F_X11_book F_X11_book_b0
    rw [gd_d (k0 s), r0_4 s, ob_s, r0_0 s, ob_s, r0_1 s, ob_s, e, ob2_s, gd_d (k41 s).1, cT_k, gd_d (k0 s), cT_R, r0_0 s, ob_s, cT_k, gd_d (k1 s), if_neg (by decide), es]
    simp only [wI_R, wI_k, wI_I, r0_1 s, k3 s, r3_16 s, r0_4 s, ec, b15.1, b41.1, k0 s, er, gd_t, ob_s, ob2_s, ob4_s, sm_l, sm_r, ac_s, decide_true, decide_false, eq_self, ne_eq, not_false_eq_true, not_true_eq_false, if_true, if_false, ite_true, ite_false, reduceIte, or_true, true_or, or_false, false_or, and_true, true_and, Bool.false_eq_true, reduceCtorEq]
  unfold F_L_book
  rw [gd_d (k0 s), x, ob4_s, sm_l]
  exact put_out2 (Sh_w s _) _ 0 0
/-- the pages go into the world -/
def pgK (K : Nat → Nat → Int32) (j : Nat) : Nat → Nat → Int32 := va_up K 60 (fun k => if 71 ≤ k ∧ k < 71 + j then K 65 (k - 71) else K 60 k)
theorem pgK_0 (K : Nat → Nat → Int32) : pgK K 0 = K := by
  funext a k
  unfold pgK
  by_cases e : a = 60
  · subst e
    rw [va_e, if_neg (by omega)]
  · rw [va_n _ _ _ _ e]
theorem pgK_o (K : Nat → Nat → Int32) (j : Nat) {a : Nat} (ha : a ≠ 60) : pgK K j a = K a := va_n _ _ _ _ ha
theorem pgK_60 (K : Nat → Nat → Int32) (j k : Nat) : pgK K j 60 k = if 71 ≤ k ∧ k < 71 + j then K 65 (k - 71) else K 60 k := by
  unfold pgK
  rw [va_e]
theorem pgK_s (K : Nat → Nat → Int32) (j : Nat) : up2 (pgK K j) 60 (71 + j) (K 65 j) = pgK K (j + 1) := by
  funext a k
  by_cases e : a = 60
  · subst e
    by_cases e2 : k = 71 + j
    · subst e2
      rw [up2_e, pgK_60, if_pos (by omega), show 71 + j - 71 = j by omega]
    · rw [up2_k _ _ _ _ _ e2, pgK_60, pgK_60]
      by_cases x : 71 ≤ k ∧ k < 71 + j
      · rw [if_pos x, if_pos (by omega)]
      · rw [if_neg x, if_neg (by omega)]
  · rw [up2_a _ _ _ _ _ e, pgK_o _ _ e, pgK_o _ _ e]
theorem bk_l55 {hM : Hp} (s : Sh hM) {K : Nat → Nat → Int32} {G : Nat → Int32} {i' : Nat} (hi : i' ≤ 20) : iter (fun z : Int32 × Hp => F_X12_book_l55 59 (nI i') z.1 z.2) FU ((0 : Int32), rfS hM K G) = some (rfS hM (pgK K (3 * i')) G) := by
  obtain ⟨a1, a2, a3⟩ := k65 s
  refine iter_at (fun j => (nI j, rfS hM (pgK K j) G)) (3 * i') _ (by rw [pgK_0]; rfl) (fun j hj => ?_) ?_ (FU_lt (by omega))
  · show F_X12_book_l55 59 (nI i') (nI j) (rfS hM (pgK K j) G) = _
    unfold F_X12_book_l55
    rw [nl_3, nmul, if_neg (nI_ge hj (by omega)), rfS_k, gd_d (k59 s), rfS_R, r59_1 s, ob_s, rfS_R, a1, ob_s, rfS_k, gd_d a2, rfS_l, a3, ix_t (by omega) (by omega), gd_t, rfS_k, gd_d (k60 s), nl_71, nadd, rfS_l, l60 s, ix_t (by omega) (by omega), gd_t, ncl (by omega), ncl (by omega), rfS_a _ (by decide), pgK_o _ _ (by decide), rfS_seta _ _ (by decide), pgK_s, nl_1, nadd]
  · show F_X12_book_l55 59 (nI i') (nI (3 * i')) _ = _
    unfold F_X12_book_l55
    rw [nl_3, nmul, if_pos (nI_le (by omega) (by omega))]
theorem bk_r1 {hM : Hp} (s : Sh hM) {K K' : Nat → Nat → Int32} {G' : Nat → Int32} {p' g' i' : Nat} (hi : i' ≤ 20) (e : F_X12_readAll 59 2 (rfS hM K (va_up (K 59) 0 0)) = some (nI i', rfT hM K' G' p' g')) : F_X12_book 59 (wI hM K) = some (nI i', rfS hM (pgK (up2 K' 60 4 (nI i')) (3 * i')) (va_up (rF G' p' g') 11 (-1))) := by
  unfold F_X12_book F_X12_book_b0
  rw [wI_k, gd_d (k59 s), th0_m hM, e, ob2_s, if_pos (nI_pos' (by omega))]
  unfold F_X12_book_b24
  rw [m_k, gd_d (k59 s), if_pos (nI_pos' (by omega))]
  unfold rfT
  rw [rfS_set]
  unfold F_X12_book_b37
  have s2 : Sh (rfS hM K' (va_up (rF G' p' g') 11 (-1))) := s
  rw [m_thr0 s2, ob2_s, rfS_k, gd_d (k59 s), if_pos rfl, gd_d (k59 s), rfS_R, r59_1 s, ob_s, rfS_k, gd_d (k60 s), rfS_l, l60 s, show ix (4 : Int32) 5049 = true from by decide, gd_t, show ((4 : Int32)).toNatClampNeg = 4 from by decide, rfS_seta _ _ (by decide), bk_l55 s hi, ob_s]
end BOOKK
