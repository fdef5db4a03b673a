/-! THE HOUSE'S LINES: kinds, both sides (gen_hl.py) -/
section HL2
variable {h : Hp} {b : Nat → Int32} {n : Nat} {F : Nat → Int32} {J0 K0 J K : Nat → Nat → Int32} {G0 G : Nat → Int32} {q i : Nat} {t : Int32}
set_option maxHeartbeats 2000000 in
theorem hl_snow (s : Sh h) (i0 : Inv (K 60)) (rel : RHs b n F J0 K0 G0 i J K G) (hq : q ≤ n) (hi : i < 14) (n1 : ¬ tIs b n q w_room) (n2 : ¬ tIs b n q w_guest) (n3 : ¬ tIs b n q w_trunk) (n4 : ¬ tIs b n q w_stove) (e : tIs b n q w_snow) : HO h b n F J0 K0 G0 i (F_X3_readLine 36 1 3 (cT h b n J F q t (-1))) (fun hM => F_X12_readHouseLine 59 (rfT hM K G (tW b n q) q)) := by
  have rel0 := rel
  obtain ⟨tc, tm, e0, eG, gJ, gK, ok, eF, d2, d3, d4⟩ := rel
  obtain ⟨a1, a2, a3, a4⟩ := k36 s
  have r8 := iR8 i0
  have g5 := iG5 i0
  have t6 := iT6 i0
  have eR : K 60 0 = nI (nR (K 60)) := iR i0
  have eGn : K 60 1 = nI (nG (K 60)) := iG i0
  have eTn : K 60 2 = nI (nT (K 60)) := iT i0
  have h0 := hq
  have h1 := tN_le (b := b) h0
  have h2 := tN_le (b := b) h1
  have h3 := tN_le (b := b) h2
  have p0 : tW b n q ≤ n := tTo_le isLe b hq
  have x0 : tS b n (tW b n q) = tN b n q := tN_w (tIs_lt (by decide) e)
  have bg := x_begin (t := t) (w := -1) s tc hq e0 hi 4
  have tc1 : TC b n (up2 J 37 (4 * i) 4) F := TC_up tc (by decide)
  have tm1 : TM b n K G := tm
  have j02 : (up2 J 37 (4 * i) 4) 36 0 = nI i := by simp (disch := decide) only [up2_a, up2_k, e0]
  have z2 : zI (cT h b n (up2 J 37 (4 * i) 4) F (tN b n q) t (-1)) 36 2 = nI (nR (K 60)) := by rw [cT_a _ (by decide)]; simp (disch := decide) only [up2_a, up2_k, d2]
  have er2 : K 60 0 = nI (nR (K 60)) := by simp (disch := omega) only [up2_k, eR]
  by_cases e2 : tOk b n (tN b n q) 0 (nI (nR (K 60)) - 1)
  rotate_left
  · have k2 : F_X3_keep 36 1 0 (nI (nR (K 60)) - 1) 1 (cT h b n (up2 J 37 (4 * i) 4) F (tN b n q) t (-1)) = _ := x_keep0 s tc1 h1 e2 _
    refine HO_no rel0 (J' := (up2 J 37 (4 * i) 4)) (q' := (tN b n q)) (t' := t) (f := (tN b n q)) (p' := tD b n (tN b n q)) ?_ K (fun hM sM => ?_) ?_ ?_
    · show F_X3_readLine 36 1 3 (cT h b n J F q t (-1)) = some (0, cT h b n (up2 J 37 (4 * i) 4) F (tN b n q) t (nI (tN b n q)))
      unfold F_X3_readLine F_X3_readLine_b0
      rw [x_isW0 s tc hq wrd_2 n1, ob_s, cT_k, gd_d (k1 s), if_pos rfl, x_isW0 s tc hq wrd_3 n2, ob_s, if_pos rfl, x_isW0 s tc hq wrd_5 n3, ob_s, if_pos rfl, x_isW0 s tc hq wrd_7 n4, ob_s, if_pos rfl, x_isW1 s tc hq wrd_8 e, ob_s, if_neg (by decide)]
      simp only [F_X3_readLine_b152, F_X3_readLine_b153, bg, z2, k2, ob2_s, cT_k, a1, k1 s, one0, gd_t, ob_s, ob2_s, ob4_s, sm_l, sm_r, ac_s, decide_true, decide_false, eq_self, ne_eq, not_false_eq_true, not_true_eq_false, if_true, if_false, ite_true, ite_false, reduceIte, or_true, true_or, or_false, false_or, and_true, true_and, Bool.false_eq_true, reduceCtorEq]
    · show F_X12_readHouseLine 59 (rfT hM K G (tW b n q) q) = some (0, rfT hM K G (tD b n (tN b n q)) (tN b n q))
      have f2 := m_told0 (g := q) sM tm1 p0 x0 er2 e2
      unfold F_X12_readHouseLine F_X12_readHouseLine_b0
      rw [m_isW0 sM tm hq wrd_42 n1, ob_s, m_k, gd_d (k59 sM), if_pos rfl, m_isW0 sM tm hq wrd_43 n2, ob_s, if_pos rfl, m_isW0 sM tm hq wrd_45 n3, ob_s, if_pos rfl, m_isW0 sM tm hq wrd_47 n4, ob_s, if_pos rfl, m_isW1 sM tm hq wrd_48 e, ob_s, if_neg (by decide)]
      simp only [F_X12_readSnow, F_X12_readSnow_b0, F_X12_readSnow_b36, F_X12_readSnow_b37, f2, ob2_s, m_k, k59 sM, one0, neg1, gd_t, ob_s, ob2_s, ob4_s, sm_l, sm_r, ac_s, decide_true, decide_false, eq_self, ne_eq, not_false_eq_true, not_true_eq_false, if_true, if_false, ite_true, ite_false, reduceIte, or_true, true_or, or_false, false_or, and_true, true_and, Bool.false_eq_true, reduceCtorEq]
    · exact fun x y1 y2 => by simp only [up2_a _ _ _ _ _ y1, up2_a _ _ _ _ _ y2]
    · exact fun x y => by simp only [up2_a _ _ _ _ _ y]
  have k2 : F_X3_keep 36 1 0 (nI (nR (K 60)) - 1) 1 (cT h b n (up2 J 37 (4 * i) 4) F (tN b n q) t (-1)) = _ := x_keep1 s tc1 h1 j02 hi (x := 1) (by omega) e2
  have v2 := tVl_lt h1 e2.2.1
  have u2 := tOk_lt h1 (by omega) e2
  have ng2 : ((nI (tVl b n (tN b n q))) < 0) = False := eq_false (nI_pos (by omega))
  have tc2 : TC b n (up2 (up2 J 37 (4 * i) 4) 37 (4 * i + 1) (nI (tVl b n (tN b n q)))) F := TC_up tc1 (by decide)
  have tm2 := tm1
  have p2 : tD b n (tN b n q) ≤ n := tTo_le isDi b h1
  have x2 := tN_d h1 e2.1
  have j03 : (up2 (up2 J 37 (4 * i) 4) 37 (4 * i + 1) (nI (tVl b n (tN b n q)))) 36 0 = nI i := by simp (disch := decide) only [up2_a, up2_k, e0]
  by_cases e3 : tOk b n (tN b n (tN b n q)) 0 999
  rotate_left
  · have k3 : F_X3_keep 36 2 0 999 1 (cT h b n (up2 (up2 J 37 (4 * i) 4) 37 (4 * i + 1) (nI (tVl b n (tN b n q)))) F (tN b n (tN b n q)) (nI (tVl b n (tN b n q))) (-1)) = _ := x_keep0 s tc2 h2 e3 _
    refine HO_no rel0 (J' := (up2 (up2 J 37 (4 * i) 4) 37 (4 * i + 1) (nI (tVl b n (tN b n q))))) (q' := (tN b n (tN b n q))) (t' := (nI (tVl b n (tN b n q)))) (f := (tN b n (tN b n q))) (p' := tD b n (tN b n (tN b n q))) ?_ (up2 K 60 (14 + 4 * tVl b n (tN b n q)) (-1)) (fun hM sM => ?_) ?_ ?_
    · show F_X3_readLine 36 1 3 (cT h b n J F q t (-1)) = some (0, cT h b n (up2 (up2 J 37 (4 * i) 4) 37 (4 * i + 1) (nI (tVl b n (tN b n q)))) F (tN b n (tN b n q)) (nI (tVl b n (tN b n q))) (nI (tN b n (tN b n q))))
      unfold F_X3_readLine F_X3_readLine_b0
      rw [x_isW0 s tc hq wrd_2 n1, ob_s, cT_k, gd_d (k1 s), if_pos rfl, x_isW0 s tc hq wrd_3 n2, ob_s, if_pos rfl, x_isW0 s tc hq wrd_5 n3, ob_s, if_pos rfl, x_isW0 s tc hq wrd_7 n4, ob_s, if_pos rfl, x_isW1 s tc hq wrd_8 e, ob_s, if_neg (by decide)]
      simp only [F_X3_readLine_b152, F_X3_readLine_b153, bg, z2, k2, k3, ob2_s, cT_k, a1, k1 s, one0, gd_t, ob_s, ob2_s, ob4_s, sm_l, sm_r, ac_s, decide_true, decide_false, eq_self, ne_eq, not_false_eq_true, not_true_eq_false, if_true, if_false, ite_true, ite_false, reduceIte, or_true, true_or, or_false, false_or, and_true, true_and, Bool.false_eq_true, reduceCtorEq]
    · show F_X12_readHouseLine 59 (rfT hM K G (tW b n q) q) = some (0, rfT hM (up2 K 60 (14 + 4 * tVl b n (tN b n q)) (-1)) G (tD b n (tN b n (tN b n q))) (tN b n (tN b n q)))
      have f2 := m_told1 (g := q) sM tm1 p0 x0 er2 e2
      have f3 := m_num0' (g := (tN b n q)) sM tm2 p2 x2 e3
      have g3 : F_X12_sets 59 (((11 : Int32) + ((4 : Int32) * nI (tVl b n (tN b n q)))) + (3 : Int32)) (-1) (rfT hM K G (tD b n (tN b n (tN b n q))) (tN b n (tN b n q))) = some (0, rfT hM (up2 K 60 (14 + 4 * tVl b n (tN b n q)) (-1)) G (tD b n (tN b n (tN b n q))) (tN b n (tN b n q))) := by rw [show (((11 : Int32) + ((4 : Int32) * nI (tVl b n (tN b n q)))) + (3 : Int32)) = nI (14 + 4 * tVl b n (tN b n q)) from ixR _ 3 14 rfl]; exact m_sets0 sM (by omega)
      unfold F_X12_readHouseLine F_X12_readHouseLine_b0
      rw [m_isW0 sM tm hq wrd_42 n1, ob_s, m_k, gd_d (k59 sM), if_pos rfl, m_isW0 sM tm hq wrd_43 n2, ob_s, if_pos rfl, m_isW0 sM tm hq wrd_45 n3, ob_s, if_pos rfl, m_isW0 sM tm hq wrd_47 n4, ob_s, if_pos rfl, m_isW1 sM tm hq wrd_48 e, ob_s, if_neg (by decide)]
      simp only [F_X12_readSnow, F_X12_readSnow_b0, F_X12_readSnow_b36, F_X12_readSnow_b37, f2, ng2, f3, g3, ob2_s, m_k, k59 sM, one0, neg1, gd_t, ob_s, ob2_s, ob4_s, sm_l, sm_r, ac_s, decide_true, decide_false, eq_self, ne_eq, not_false_eq_true, not_true_eq_false, if_true, if_false, ite_true, ite_false, reduceIte, or_true, true_or, or_false, false_or, and_true, true_and, Bool.false_eq_true, reduceCtorEq]
    · exact fun x y1 y2 => by simp only [up2_a _ _ _ _ _ y1, up2_a _ _ _ _ _ y2]
    · exact fun x y => by simp only [up2_a _ _ _ _ _ y]
  have k3 : F_X3_keep 36 2 0 999 1 (cT h b n (up2 (up2 J 37 (4 * i) 4) 37 (4 * i + 1) (nI (tVl b n (tN b n q)))) F (tN b n (tN b n q)) (nI (tVl b n (tN b n q))) (-1)) = _ := x_keep1 s tc2 h2 j03 hi (x := 2) (by omega) e3
  have v3 := tVl_lt h2 e3.2.1
  have tc3 : TC b n (up2 (up2 (up2 J 37 (4 * i) 4) 37 (4 * i + 1) (nI (tVl b n (tN b n q)))) 37 (4 * i + 2) (nI (tVl b n (tN b n (tN b n q))))) F := TC_up tc2 (by decide)
  have tm3 : TM b n (up2 K 60 (14 + 4 * tVl b n (tN b n q)) (nI (tVl b n (tN b n (tN b n q))))) G := TM_up tm2 (by decide)
  have p3 : tD b n (tN b n (tN b n q)) ≤ n := tTo_le isDi b h2
  have x3 := tN_d h2 e3.1
  refine HO_ok rel0 (J' := (up2 (up2 (up2 J 37 (4 * i) 4) 37 (4 * i + 1) (nI (tVl b n (tN b n q)))) 37 (4 * i + 2) (nI (tVl b n (tN b n (tN b n q)))))) (q' := (tN b n (tN b n (tN b n q)))) (t' := (nI (tVl b n (tN b n (tN b n q))))) (p' := (tD b n (tN b n (tN b n q)))) (g' := (tN b n (tN b n q))) (k := 4) (a := (tVl b n (tN b n q))) (c := (tVl b n (tN b n (tN b n q)))) (d := _) ?_ (up2 K 60 (14 + 4 * tVl b n (tN b n q)) (nI (tVl b n (tN b n (tN b n q))))) (fun hM sM => ?_) p3 x3 ?_ ?_ ?_ ?_ ?_ ?_ ?_ rfl (show _ < nR (K 60) ∧ _ ≤ 999 from ⟨tOk_lt h1 (by omega) e2, tOk_le (m := 999) h2 e3⟩) ?_ ?_ ?_ ?_
  · show F_X3_readLine 36 1 3 (cT h b n J F q t (-1)) = some (1, cT h b n (up2 (up2 (up2 J 37 (4 * i) 4) 37 (4 * i + 1) (nI (tVl b n (tN b n q)))) 37 (4 * i + 2) (nI (tVl b n (tN b n (tN b n q))))) F (tN b n (tN b n (tN b n q))) (nI (tVl b n (tN b n (tN b n q)))) (-1))
    unfold F_X3_readLine F_X3_readLine_b0
    rw [x_isW0 s tc hq wrd_2 n1, ob_s, cT_k, gd_d (k1 s), if_pos rfl, x_isW0 s tc hq wrd_3 n2, ob_s, if_pos rfl, x_isW0 s tc hq wrd_5 n3, ob_s, if_pos rfl, x_isW0 s tc hq wrd_7 n4, ob_s, if_pos rfl, x_isW1 s tc hq wrd_8 e, ob_s, if_neg (by decide)]
    simp only [F_X3_readLine_b152, F_X3_readLine_b153, bg, z2, k2, k3, ob2_s, cT_k, a1, k1 s, one0, gd_t, ob_s, ob2_s, ob4_s, sm_l, sm_r, ac_s, decide_true, decide_false, eq_self, ne_eq, not_false_eq_true, not_true_eq_false, if_true, if_false, ite_true, ite_false, reduceIte, or_true, true_or, or_false, false_or, and_true, true_and, Bool.false_eq_true, reduceCtorEq]
  · show F_X12_readHouseLine 59 (rfT hM K G (tW b n q) q) = some (1, rfT hM (up2 K 60 (14 + 4 * tVl b n (tN b n q)) (nI (tVl b n (tN b n (tN b n q))))) G (tD b n (tN b n (tN b n q))) (tN b n (tN b n q)))
    have f2 := m_told1 (g := q) sM tm1 p0 x0 er2 e2
    have f3 := m_num1' (g := (tN b n q)) sM tm2 p2 x2 e3
    have g3 : F_X12_sets 59 (((11 : Int32) + ((4 : Int32) * nI (tVl b n (tN b n q)))) + (3 : Int32)) (nI (tVl b n (tN b n (tN b n q)))) (rfT hM K G (tD b n (tN b n (tN b n q))) (tN b n (tN b n q))) = some (1, rfT hM (up2 K 60 (14 + 4 * tVl b n (tN b n q)) (nI (tVl b n (tN b n (tN b n q))))) G (tD b n (tN b n (tN b n q))) (tN b n (tN b n q))) := by rw [show (((11 : Int32) + ((4 : Int32) * nI (tVl b n (tN b n q)))) + (3 : Int32)) = nI (14 + 4 * tVl b n (tN b n q)) from ixR _ 3 14 rfl]; exact m_sets1 sM (by omega) (by omega)
    unfold F_X12_readHouseLine F_X12_readHouseLine_b0
    rw [m_isW0 sM tm hq wrd_42 n1, ob_s, m_k, gd_d (k59 sM), if_pos rfl, m_isW0 sM tm hq wrd_43 n2, ob_s, if_pos rfl, m_isW0 sM tm hq wrd_45 n3, ob_s, if_pos rfl, m_isW0 sM tm hq wrd_47 n4, ob_s, if_pos rfl, m_isW1 sM tm hq wrd_48 e, ob_s, if_neg (by decide)]
    simp only [F_X12_readSnow, F_X12_readSnow_b0, F_X12_readSnow_b36, F_X12_readSnow_b37, f2, ng2, f3, g3, ob2_s, m_k, k59 sM, one0, neg1, gd_t, ob_s, ob2_s, ob4_s, sm_l, sm_r, ac_s, decide_true, decide_false, eq_self, ne_eq, not_false_eq_true, not_true_eq_false, if_true, if_false, ite_true, ite_false, reduceIte, or_true, true_or, or_false, false_or, and_true, true_and, Bool.false_eq_true, reduceCtorEq]
  · exact fun x y1 y2 => by simp only [up2_a _ _ _ _ _ y1, up2_a _ _ _ _ _ y2]
  · simp (disch := decide) only [up2_a, up2_k]
  · exact fun x y => by simp (disch := omega) only [up2_a, up2_k]
  · exact fun x y => by simp only [up2_a _ _ _ _ _ y]
  · exact nN_e (by simp (disch := omega) only [up2_e, up2_k, up2_a] <;> rfl) (by omega)
  · exact nN_e (by simp (disch := omega) only [up2_e, up2_k, up2_a]) (by omega)
  · exact nN_e (by simp (disch := omega) only [up2_e, up2_k, up2_a]) (by omega)
  · simp only [up2_r]
    rfl
  · simp (disch := decide) only [up2_a, up2_k, up2_e, d2] <;> rfl
  · simp (disch := decide) only [up2_a, up2_k, up2_e, d3] <;> rfl
  · simp (disch := decide) only [up2_a, up2_k, up2_e, d4] <;> rfl
set_option maxHeartbeats 2000000 in
theorem hl_west (s : Sh h) (i0 : Inv (K 60)) (rel : RHs b n F J0 K0 G0 i J K G) (hq : q ≤ n) (hi : i < 14) (n1 : ¬ tIs b n q w_room) (n2 : ¬ tIs b n q w_guest) (n3 : ¬ tIs b n q w_trunk) (n4 : ¬ tIs b n q w_stove) (n5 : ¬ tIs b n q w_snow) (n6 : ¬ tIs b n q w_bound) (n7 : ¬ tIs b n q w_slide) (e : tIs b n q w_west) : HO h b n F J0 K0 G0 i (F_X3_readLine 36 1 3 (cT h b n J F q t (-1))) (fun hM => F_X12_readHouseLine 59 (rfT hM K G (tW b n q) q)) := by
  have rel0 := rel
  obtain ⟨tc, tm, e0, eG, gJ, gK, ok, eF, d2, d3, d4⟩ := rel
  obtain ⟨a1, a2, a3, a4⟩ := k36 s
  have r8 := iR8 i0
  have g5 := iG5 i0
  have t6 := iT6 i0
  have eR : K 60 0 = nI (nR (K 60)) := iR i0
  have eGn : K 60 1 = nI (nG (K 60)) := iG i0
  have eTn : K 60 2 = nI (nT (K 60)) := iT i0
  have h0 := hq
  have h1 := tN_le (b := b) h0
  have h2 := tN_le (b := b) h1
  have p0 : tW b n q ≤ n := tTo_le isLe b hq
  have x0 : tS b n (tW b n q) = tN b n q := tN_w (tIs_lt (by decide) e)
  have bg := x_begin (t := t) (w := -1) s tc hq e0 hi 7
  have tc1 : TC b n (up2 J 37 (4 * i) 7) F := TC_up tc (by decide)
  have tm1 : TM b n K G := tm
  have j02 : (up2 J 37 (4 * i) 7) 36 0 = nI i := by simp (disch := decide) only [up2_a, up2_k, e0]
  have z2 : zI (cT h b n (up2 J 37 (4 * i) 7) F (tN b n q) t (-1)) 36 2 = nI (nR (K 60)) := by rw [cT_a _ (by decide)]; simp (disch := decide) only [up2_a, up2_k, d2]
  have er2 : K 60 0 = nI (nR (K 60)) := by simp (disch := omega) only [up2_k, eR]
  by_cases e2 : tOk b n (tN b n q) 0 (nI (nR (K 60)) - 1)
  rotate_left
  · have k2 : F_X3_keep 36 1 0 (nI (nR (K 60)) - 1) 1 (cT h b n (up2 J 37 (4 * i) 7) F (tN b n q) t (-1)) = _ := x_keep0 s tc1 h1 e2 _
    refine HO_no rel0 (J' := (up2 J 37 (4 * i) 7)) (q' := (tN b n q)) (t' := t) (f := (tN b n q)) (p' := tD b n (tN b n q)) ?_ K (fun hM sM => ?_) ?_ ?_
    · show F_X3_readLine 36 1 3 (cT h b n J F q t (-1)) = some (0, cT h b n (up2 J 37 (4 * i) 7) F (tN b n q) t (nI (tN b n q)))
      unfold F_X3_readLine F_X3_readLine_b0
      rw [x_isW0 s tc hq wrd_2 n1, ob_s, cT_k, gd_d (k1 s), if_pos rfl, x_isW0 s tc hq wrd_3 n2, ob_s, if_pos rfl, x_isW0 s tc hq wrd_5 n3, ob_s, if_pos rfl, x_isW0 s tc hq wrd_7 n4, ob_s, if_pos rfl, x_isW0 s tc hq wrd_8 n5, ob_s, if_pos rfl, x_isW0 s tc hq wrd_9 n6, ob_s, if_pos rfl, x_isW0 s tc hq wrd_10 n7, ob_s, if_pos rfl, x_isW1 s tc hq wrd_11 e, ob_s, if_neg (by decide)]
      simp only [bg, z2, k2, ob2_s, cT_k, a1, k1 s, one0, gd_t, ob_s, ob2_s, ob4_s, sm_l, sm_r, ac_s, decide_true, decide_false, eq_self, ne_eq, not_false_eq_true, not_true_eq_false, if_true, if_false, ite_true, ite_false, reduceIte, or_true, true_or, or_false, false_or, and_true, true_and, Bool.false_eq_true, reduceCtorEq]
    · show F_X12_readHouseLine 59 (rfT hM K G (tW b n q) q) = some (0, rfT hM K G (tD b n (tN b n q)) (tN b n q))
      have f2 := m_told0 (g := q) sM tm1 p0 x0 er2 e2
      unfold F_X12_readHouseLine F_X12_readHouseLine_b0
      rw [m_isW0 sM tm hq wrd_42 n1, ob_s, m_k, gd_d (k59 sM), if_pos rfl, m_isW0 sM tm hq wrd_43 n2, ob_s, if_pos rfl, m_isW0 sM tm hq wrd_45 n3, ob_s, if_pos rfl, m_isW0 sM tm hq wrd_47 n4, ob_s, if_pos rfl, m_isW0 sM tm hq wrd_48 n5, ob_s, if_pos rfl, m_isW0 sM tm hq wrd_49 n6, ob_s, if_pos rfl, m_isW0 sM tm hq wrd_50 n7, ob_s, if_pos rfl, m_isW1 sM tm hq wrd_51 e, ob_s, if_neg (by decide)]
      simp only [F_X12_readHouseLine_b136, F_X12_readHouseLine_b146, F_X12_readHouseLine_b156, F_X12_readHouseLine_b157, F_X12_readTurned, F_X12_readTurned_b0, F_X12_readTurned_b29, F_X12_readTurned_b38, f2, ob2_s, m_k, k59 sM, one0, neg1, gd_t, ob_s, ob2_s, ob4_s, sm_l, sm_r, ac_s, decide_true, decide_false, eq_self, ne_eq, not_false_eq_true, not_true_eq_false, if_true, if_false, ite_true, ite_false, reduceIte, or_true, true_or, or_false, false_or, and_true, true_and, Bool.false_eq_true, reduceCtorEq]
    · exact fun x y1 y2 => by simp only [up2_a _ _ _ _ _ y1, up2_a _ _ _ _ _ y2]
    · exact fun x y => by simp only [up2_a _ _ _ _ _ y]
  have k2 : F_X3_keep 36 1 0 (nI (nR (K 60)) - 1) 1 (cT h b n (up2 J 37 (4 * i) 7) F (tN b n q) t (-1)) = _ := x_keep1 s tc1 h1 j02 hi (x := 1) (by omega) e2
  have v2 := tVl_lt h1 e2.2.1
  have u2 := tOk_lt h1 (by omega) e2
  have ng2 : ((nI (tVl b n (tN b n q))) < 0) = False := eq_false (nI_pos (by omega))
  have tc2 : TC b n (up2 (up2 J 37 (4 * i) 7) 37 (4 * i + 1) (nI (tVl b n (tN b n q)))) F := TC_up tc1 (by decide)
  have tm2 := tm1
  have p2 : tD b n (tN b n q) ≤ n := tTo_le isDi b h1
  have x2 := tN_d h1 e2.1
  refine HO_ok rel0 (J' := (up2 (up2 J 37 (4 * i) 7) 37 (4 * i + 1) (nI (tVl b n (tN b n q))))) (q' := (tN b n (tN b n q))) (t' := (nI (tVl b n (tN b n q)))) (p' := (tD b n (tN b n q))) (g' := (tN b n q)) (k := 7) (a := (tVl b n (tN b n q))) (c := _) (d := _) ?_ (up2 K 60 (11 + 4 * tVl b n (tN b n q)) (0 - K 60 (11 + 4 * tVl b n (tN b n q)))) (fun hM sM => ?_) p2 x2 ?_ ?_ ?_ ?_ ?_ ?_ rfl rfl (show _ < nR (K 60) from tOk_lt h1 (by omega) e2) ?_ ?_ ?_ ?_
  · show F_X3_readLine 36 1 3 (cT h b n J F q t (-1)) = some (1, cT h b n (up2 (up2 J 37 (4 * i) 7) 37 (4 * i + 1) (nI (tVl b n (tN b n q)))) F (tN b n (tN b n q)) (nI (tVl b n (tN b n q))) (-1))
    unfold F_X3_readLine F_X3_readLine_b0
    rw [x_isW0 s tc hq wrd_2 n1, ob_s, cT_k, gd_d (k1 s), if_pos rfl, x_isW0 s tc hq wrd_3 n2, ob_s, if_pos rfl, x_isW0 s tc hq wrd_5 n3, ob_s, if_pos rfl, x_isW0 s tc hq wrd_7 n4, ob_s, if_pos rfl, x_isW0 s tc hq wrd_8 n5, ob_s, if_pos rfl, x_isW0 s tc hq wrd_9 n6, ob_s, if_pos rfl, x_isW0 s tc hq wrd_10 n7, ob_s, if_pos rfl, x_isW1 s tc hq wrd_11 e, ob_s, if_neg (by decide)]
    simp only [bg, z2, k2, ob2_s, cT_k, a1, k1 s, one0, gd_t, ob_s, ob2_s, ob4_s, sm_l, sm_r, ac_s, decide_true, decide_false, eq_self, ne_eq, not_false_eq_true, not_true_eq_false, if_true, if_false, ite_true, ite_false, reduceIte, or_true, true_or, or_false, false_or, and_true, true_and, Bool.false_eq_true, reduceCtorEq]
  · show F_X12_readHouseLine 59 (rfT hM K G (tW b n q) q) = some (1, rfT hM (up2 K 60 (11 + 4 * tVl b n (tN b n q)) (0 - K 60 (11 + 4 * tVl b n (tN b n q)))) G (tD b n (tN b n q)) (tN b n q))
    have f2 := m_told1 (g := q) sM tm1 p0 x0 er2 e2
    have vr := tOk_lt h1 (by omega) e2
    have y1 : (((11 : Int32) + ((4 : Int32) * nI (tVl b n (tN b n q)))) + (0 : Int32)) = nI (11 + 4 * tVl b n (tN b n q)) := ixR _ 0 11 rfl
    have y2 := ix_t (show (11 + 4 * tVl b n (tN b n q)) < 5049 by omega) (by omega)
    have y3 := ncl (show (11 + 4 * tVl b n (tN b n q)) < 2147483648 by omega)
    have y5 : F_X12_ofRoom 59 (nI (tVl b n (tN b n q))) (0 : Int32) (rfT hM K G (tD b n (tN b n q)) (tN b n q)) = some (K 60 (11 + 4 * tVl b n (tN b n q))) := by
      refine (m_ofRoom (k := 0) (show Sh (rfT hM K G (tD b n (tN b n q)) (tN b n q)) from sM) (by omega) (by omega)).trans ?_
      rw [m_a _ (by decide), show 11 + 4 * tVl b n (tN b n q) + 0 = (11 + 4 * tVl b n (tN b n q)) by omega]
    unfold F_X12_readHouseLine F_X12_readHouseLine_b0
    rw [m_isW0 sM tm hq wrd_42 n1, ob_s, m_k, gd_d (k59 sM), if_pos rfl, m_isW0 sM tm hq wrd_43 n2, ob_s, if_pos rfl, m_isW0 sM tm hq wrd_45 n3, ob_s, if_pos rfl, m_isW0 sM tm hq wrd_47 n4, ob_s, if_pos rfl, m_isW0 sM tm hq wrd_48 n5, ob_s, if_pos rfl, m_isW0 sM tm hq wrd_49 n6, ob_s, if_pos rfl, m_isW0 sM tm hq wrd_50 n7, ob_s, if_pos rfl, m_isW1 sM tm hq wrd_51 e, ob_s, if_neg (by decide)]
    simp only [F_X12_readHouseLine_b136, F_X12_readHouseLine_b146, F_X12_readHouseLine_b156, F_X12_readHouseLine_b157, F_X12_readTurned, F_X12_readTurned_b0, F_X12_readTurned_b29, F_X12_readTurned_b38, f2, ng2, y1, y2, y3, y5, m_R, m_l, r59_1 sM, k60 sM, l60 sM, m_seta _ _ (show 60 ≠ 59 by decide), ob2_s, m_k, k59 sM, one0, neg1, gd_t, ob_s, ob2_s, ob4_s, sm_l, sm_r, ac_s, decide_true, decide_false, eq_self, ne_eq, not_false_eq_true, not_true_eq_false, if_true, if_false, ite_true, ite_false, reduceIte, or_true, true_or, or_false, false_or, and_true, true_and, Bool.false_eq_true, reduceCtorEq]
  · exact fun x y1 y2 => by simp only [up2_a _ _ _ _ _ y1, up2_a _ _ _ _ _ y2]
  · simp (disch := decide) only [up2_a, up2_k]
  · exact fun x y => by simp (disch := omega) only [up2_a, up2_k]
  · exact fun x y => by simp only [up2_a _ _ _ _ _ y]
  · exact nN_e (by simp (disch := omega) only [up2_e, up2_k, up2_a] <;> rfl) (by omega)
  · exact nN_e (by simp (disch := omega) only [up2_e, up2_k, up2_a]) (by omega)
  · simp only [up2_r]
    rfl
  · simp (disch := decide) only [up2_a, up2_k, up2_e, d2] <;> rfl
  · simp (disch := decide) only [up2_a, up2_k, up2_e, d3] <;> rfl
  · simp (disch := decide) only [up2_a, up2_k, up2_e, d4] <;> rfl
set_option maxHeartbeats 2000000 in
theorem hl_south (s : Sh h) (i0 : Inv (K 60)) (rel : RHs b n F J0 K0 G0 i J K G) (hq : q ≤ n) (hi : i < 14) (n1 : ¬ tIs b n q w_room) (n2 : ¬ tIs b n q w_guest) (n3 : ¬ tIs b n q w_trunk) (n4 : ¬ tIs b n q w_stove) (n5 : ¬ tIs b n q w_snow) (n6 : ¬ tIs b n q w_bound) (n7 : ¬ tIs b n q w_slide) (n8 : ¬ tIs b n q w_west) (e : tIs b n q w_south) : HO h b n F J0 K0 G0 i (F_X3_readLine 36 1 3 (cT h b n J F q t (-1))) (fun hM => F_X12_readHouseLine 59 (rfT hM K G (tW b n q) q)) := by
  have rel0 := rel
  obtain ⟨tc, tm, e0, eG, gJ, gK, ok, eF, d2, d3, d4⟩ := rel
  obtain ⟨a1, a2, a3, a4⟩ := k36 s
  have r8 := iR8 i0
  have g5 := iG5 i0
  have t6 := iT6 i0
  have eR : K 60 0 = nI (nR (K 60)) := iR i0
  have eGn : K 60 1 = nI (nG (K 60)) := iG i0
  have eTn : K 60 2 = nI (nT (K 60)) := iT i0
  have h0 := hq
  have h1 := tN_le (b := b) h0
  have h2 := tN_le (b := b) h1
  have p0 : tW b n q ≤ n := tTo_le isLe b hq
  have x0 : tS b n (tW b n q) = tN b n q := tN_w (tIs_lt (by decide) e)
  have bg := x_begin (t := t) (w := -1) s tc hq e0 hi 8
  have tc1 : TC b n (up2 J 37 (4 * i) 8) F := TC_up tc (by decide)
  have tm1 : TM b n K G := tm
  have j02 : (up2 J 37 (4 * i) 8) 36 0 = nI i := by simp (disch := decide) only [up2_a, up2_k, e0]
  have z2 : zI (cT h b n (up2 J 37 (4 * i) 8) F (tN b n q) t (-1)) 36 2 = nI (nR (K 60)) := by rw [cT_a _ (by decide)]; simp (disch := decide) only [up2_a, up2_k, d2]
  have er2 : K 60 0 = nI (nR (K 60)) := by simp (disch := omega) only [up2_k, eR]
  by_cases e2 : tOk b n (tN b n q) 0 (nI (nR (K 60)) - 1)
  rotate_left
  · have k2 : F_X3_keep 36 1 0 (nI (nR (K 60)) - 1) 1 (cT h b n (up2 J 37 (4 * i) 8) F (tN b n q) t (-1)) = _ := x_keep0 s tc1 h1 e2 _
    refine HO_no rel0 (J' := (up2 J 37 (4 * i) 8)) (q' := (tN b n q)) (t' := t) (f := (tN b n q)) (p' := tD b n (tN b n q)) ?_ K (fun hM sM => ?_) ?_ ?_
    · show F_X3_readLine 36 1 3 (cT h b n J F q t (-1)) = some (0, cT h b n (up2 J 37 (4 * i) 8) F (tN b n q) t (nI (tN b n q)))
      unfold F_X3_readLine F_X3_readLine_b0
      rw [x_isW0 s tc hq wrd_2 n1, ob_s, cT_k, gd_d (k1 s), if_pos rfl, x_isW0 s tc hq wrd_3 n2, ob_s, if_pos rfl, x_isW0 s tc hq wrd_5 n3, ob_s, if_pos rfl, x_isW0 s tc hq wrd_7 n4, ob_s, if_pos rfl, x_isW0 s tc hq wrd_8 n5, ob_s, if_pos rfl, x_isW0 s tc hq wrd_9 n6, ob_s, if_pos rfl, x_isW0 s tc hq wrd_10 n7, ob_s, if_pos rfl, x_isW0 s tc hq wrd_11 n8, ob_s, if_pos rfl, x_isW1 s tc hq wrd_12 e, ob_s, if_neg (by decide)]
      simp only [bg, z2, k2, ob2_s, cT_k, a1, k1 s, one0, gd_t, ob_s, ob2_s, ob4_s, sm_l, sm_r, ac_s, decide_true, decide_false, eq_self, ne_eq, not_false_eq_true, not_true_eq_false, if_true, if_false, ite_true, ite_false, reduceIte, or_true, true_or, or_false, false_or, and_true, true_and, Bool.false_eq_true, reduceCtorEq]
    · show F_X12_readHouseLine 59 (rfT hM K G (tW b n q) q) = some (0, rfT hM K G (tD b n (tN b n q)) (tN b n q))
      have f2 := m_told0 (g := q) sM tm1 p0 x0 er2 e2
      unfold F_X12_readHouseLine F_X12_readHouseLine_b0
      rw [m_isW0 sM tm hq wrd_42 n1, ob_s, m_k, gd_d (k59 sM), if_pos rfl, m_isW0 sM tm hq wrd_43 n2, ob_s, if_pos rfl, m_isW0 sM tm hq wrd_45 n3, ob_s, if_pos rfl, m_isW0 sM tm hq wrd_47 n4, ob_s, if_pos rfl, m_isW0 sM tm hq wrd_48 n5, ob_s, if_pos rfl, m_isW0 sM tm hq wrd_49 n6, ob_s, if_pos rfl, m_isW0 sM tm hq wrd_50 n7, ob_s, if_pos rfl, m_isW0 sM tm hq wrd_51 n8, ob_s, if_pos rfl, m_isW1 sM tm hq wrd_52 e, ob_s, if_neg (by decide)]
      simp only [F_X12_readHouseLine_b136, F_X12_readHouseLine_b146, F_X12_readHouseLine_b156, F_X12_readHouseLine_b157, F_X12_readTurned, F_X12_readTurned_b0, F_X12_readTurned_b29, F_X12_readTurned_b38, f2, ob2_s, m_k, k59 sM, one0, neg1, gd_t, ob_s, ob2_s, ob4_s, sm_l, sm_r, ac_s, decide_true, decide_false, eq_self, ne_eq, not_false_eq_true, not_true_eq_false, if_true, if_false, ite_true, ite_false, reduceIte, or_true, true_or, or_false, false_or, and_true, true_and, Bool.false_eq_true, reduceCtorEq]
    · exact fun x y1 y2 => by simp only [up2_a _ _ _ _ _ y1, up2_a _ _ _ _ _ y2]
    · exact fun x y => by simp only [up2_a _ _ _ _ _ y]
  have k2 : F_X3_keep 36 1 0 (nI (nR (K 60)) - 1) 1 (cT h b n (up2 J 37 (4 * i) 8) F (tN b n q) t (-1)) = _ := x_keep1 s tc1 h1 j02 hi (x := 1) (by omega) e2
  have v2 := tVl_lt h1 e2.2.1
  have u2 := tOk_lt h1 (by omega) e2
  have ng2 : ((nI (tVl b n (tN b n q))) < 0) = False := eq_false (nI_pos (by omega))
  have tc2 : TC b n (up2 (up2 J 37 (4 * i) 8) 37 (4 * i + 1) (nI (tVl b n (tN b n q)))) F := TC_up tc1 (by decide)
  have tm2 := tm1
  have p2 : tD b n (tN b n q) ≤ n := tTo_le isDi b h1
  have x2 := tN_d h1 e2.1
  refine HO_ok rel0 (J' := (up2 (up2 J 37 (4 * i) 8) 37 (4 * i + 1) (nI (tVl b n (tN b n q))))) (q' := (tN b n (tN b n q))) (t' := (nI (tVl b n (tN b n q)))) (p' := (tD b n (tN b n q))) (g' := (tN b n q)) (k := 8) (a := (tVl b n (tN b n q))) (c := _) (d := _) ?_ (up2 K 60 (12 + 4 * tVl b n (tN b n q)) (0 - K 60 (12 + 4 * tVl b n (tN b n q)))) (fun hM sM => ?_) p2 x2 ?_ ?_ ?_ ?_ ?_ ?_ rfl rfl (show _ < nR (K 60) from tOk_lt h1 (by omega) e2) ?_ ?_ ?_ ?_
  · show F_X3_readLine 36 1 3 (cT h b n J F q t (-1)) = some (1, cT h b n (up2 (up2 J 37 (4 * i) 8) 37 (4 * i + 1) (nI (tVl b n (tN b n q)))) F (tN b n (tN b n q)) (nI (tVl b n (tN b n q))) (-1))
    unfold F_X3_readLine F_X3_readLine_b0
    rw [x_isW0 s tc hq wrd_2 n1, ob_s, cT_k, gd_d (k1 s), if_pos rfl, x_isW0 s tc hq wrd_3 n2, ob_s, if_pos rfl, x_isW0 s tc hq wrd_5 n3, ob_s, if_pos rfl, x_isW0 s tc hq wrd_7 n4, ob_s, if_pos rfl, x_isW0 s tc hq wrd_8 n5, ob_s, if_pos rfl, x_isW0 s tc hq wrd_9 n6, ob_s, if_pos rfl, x_isW0 s tc hq wrd_10 n7, ob_s, if_pos rfl, x_isW0 s tc hq wrd_11 n8, ob_s, if_pos rfl, x_isW1 s tc hq wrd_12 e, ob_s, if_neg (by decide)]
    simp only [bg, z2, k2, ob2_s, cT_k, a1, k1 s, one0, gd_t, ob_s, ob2_s, ob4_s, sm_l, sm_r, ac_s, decide_true, decide_false, eq_self, ne_eq, not_false_eq_true, not_true_eq_false, if_true, if_false, ite_true, ite_false, reduceIte, or_true, true_or, or_false, false_or, and_true, true_and, Bool.false_eq_true, reduceCtorEq]
  · show F_X12_readHouseLine 59 (rfT hM K G (tW b n q) q) = some (1, rfT hM (up2 K 60 (12 + 4 * tVl b n (tN b n q)) (0 - K 60 (12 + 4 * tVl b n (tN b n q)))) G (tD b n (tN b n q)) (tN b n q))
    have f2 := m_told1 (g := q) sM tm1 p0 x0 er2 e2
    have vr := tOk_lt h1 (by omega) e2
    have y1 : (((11 : Int32) + ((4 : Int32) * nI (tVl b n (tN b n q)))) + (1 : Int32)) = nI (12 + 4 * tVl b n (tN b n q)) := ixR _ 1 12 rfl
    have y2 := ix_t (show (12 + 4 * tVl b n (tN b n q)) < 5049 by omega) (by omega)
    have y3 := ncl (show (12 + 4 * tVl b n (tN b n q)) < 2147483648 by omega)
    have y5 : F_X12_ofRoom 59 (nI (tVl b n (tN b n q))) (1 : Int32) (rfT hM K G (tD b n (tN b n q)) (tN b n q)) = some (K 60 (12 + 4 * tVl b n (tN b n q))) := by
      refine (m_ofRoom (k := 1) (show Sh (rfT hM K G (tD b n (tN b n q)) (tN b n q)) from sM) (by omega) (by omega)).trans ?_
      rw [m_a _ (by decide), show 11 + 4 * tVl b n (tN b n q) + 1 = (12 + 4 * tVl b n (tN b n q)) by omega]
    unfold F_X12_readHouseLine F_X12_readHouseLine_b0
    rw [m_isW0 sM tm hq wrd_42 n1, ob_s, m_k, gd_d (k59 sM), if_pos rfl, m_isW0 sM tm hq wrd_43 n2, ob_s, if_pos rfl, m_isW0 sM tm hq wrd_45 n3, ob_s, if_pos rfl, m_isW0 sM tm hq wrd_47 n4, ob_s, if_pos rfl, m_isW0 sM tm hq wrd_48 n5, ob_s, if_pos rfl, m_isW0 sM tm hq wrd_49 n6, ob_s, if_pos rfl, m_isW0 sM tm hq wrd_50 n7, ob_s, if_pos rfl, m_isW0 sM tm hq wrd_51 n8, ob_s, if_pos rfl, m_isW1 sM tm hq wrd_52 e, ob_s, if_neg (by decide)]
    simp only [F_X12_readHouseLine_b136, F_X12_readHouseLine_b146, F_X12_readHouseLine_b156, F_X12_readHouseLine_b157, F_X12_readTurned, F_X12_readTurned_b0, F_X12_readTurned_b29, F_X12_readTurned_b38, f2, ng2, y1, y2, y3, y5, m_R, m_l, r59_1 sM, k60 sM, l60 sM, m_seta _ _ (show 60 ≠ 59 by decide), ob2_s, m_k, k59 sM, one0, neg1, gd_t, ob_s, ob2_s, ob4_s, sm_l, sm_r, ac_s, decide_true, decide_false, eq_self, ne_eq, not_false_eq_true, not_true_eq_false, if_true, if_false, ite_true, ite_false, reduceIte, or_true, true_or, or_false, false_or, and_true, true_and, Bool.false_eq_true, reduceCtorEq]
  · exact fun x y1 y2 => by simp only [up2_a _ _ _ _ _ y1, up2_a _ _ _ _ _ y2]
  · simp (disch := decide) only [up2_a, up2_k]
  · exact fun x y => by simp (disch := omega) only [up2_a, up2_k]
  · exact fun x y => by simp only [up2_a _ _ _ _ _ y]
  · exact nN_e (by simp (disch := omega) only [up2_e, up2_k, up2_a] <;> rfl) (by omega)
  · exact nN_e (by simp (disch := omega) only [up2_e, up2_k, up2_a]) (by omega)
  · simp only [up2_r]
    rfl
  · simp (disch := decide) only [up2_a, up2_k, up2_e, d2] <;> rfl
  · simp (disch := decide) only [up2_a, up2_k, up2_e, d3] <;> rfl
  · simp (disch := decide) only [up2_a, up2_k, up2_e, d4] <;> rfl
end HL2
