/-! THE HOUSE'S LINES: kinds, both sides (gen_hl.py) -/
section HL1
variable {h : Hp} {b : Nat → Int32} {n : Nat} {F : Nat → Int32} {J0 K0 J K : Nat → Nat → Int32} {G0 G : Nat → Int32} {q i : Nat} {t : Int32}
set_option maxHeartbeats 2000000 in
theorem hl_bound (s : Sh h) (i0 : Inv (K 60)) (rel : RHs b n F J0 K0 G0 i J K G) (hq : q ≤ n) (hi : i < 14) (n1 : ¬ tIs b n q w_room) (n2 : ¬ tIs b n q w_guest) (n3 : ¬ tIs b n q w_trunk) (n4 : ¬ tIs b n q w_stove) (n5 : ¬ tIs b n q w_snow) (e : tIs b n q w_bound) : HO h b n F J0 K0 G0 i (F_X3_readLine 36 1 3 (cT h b n J F q t (-1))) (fun hM => F_X12_readHouseLine 59 (rfT hM K G (tW b n q) q)) := by
  have rel0 := rel
  obtain ⟨tc, tm, e0, eG, gJ, gK, ok, eF, d2, d3, d4⟩ := rel
  obtain ⟨a1, a2, a3, a4⟩ := k36 s
  have r8 := iR8 i0
  have g5 := iG5 i0
  have t6 := iT6 i0
  have eR : K 60 0 = nI (nR (K 60)) := iR i0
  have eGn : K 60 1 = nI (nG (K 60)) := iG i0
  have eTn : K 60 2 = nI (nT (K 60)) := iT i0
  have h0 := hq
  have h1 := tN_le (b := b) h0
  have h2 := tN_le (b := b) h1
  have p0 : tW b n q ≤ n := tTo_le isLe b hq
  have x0 : tS b n (tW b n q) = tN b n q := tN_w (tIs_lt (by decide) e)
  have bg := x_begin (t := t) (w := -1) s tc hq e0 hi 5
  have tc1 : TC b n (up2 J 37 (4 * i) 5) F := TC_up tc (by decide)
  have tm1 : TM b n K G := tm
  have j02 : (up2 J 37 (4 * i) 5) 36 0 = nI i := by simp (disch := decide) only [up2_a, up2_k, e0]
  by_cases e2 : tOk b n (tN b n q) 0 99999
  rotate_left
  · have k2 : F_X3_keep 36 1 0 99999 1 (cT h b n (up2 J 37 (4 * i) 5) F (tN b n q) t (-1)) = _ := x_keep0 s tc1 h1 e2 _
    refine HO_no rel0 (J' := (up2 J 37 (4 * i) 5)) (q' := (tN b n q)) (t' := t) (f := (tN b n q)) (p' := tD b n (tN b n q)) ?_ (up2 K 60 (8) (-1)) (fun hM sM => ?_) ?_ ?_
    · show F_X3_readLine 36 1 3 (cT h b n J F q t (-1)) = some (0, cT h b n (up2 J 37 (4 * i) 5) F (tN b n q) t (nI (tN b n q)))
      unfold F_X3_readLine F_X3_readLine_b0
      rw [x_isW0 s tc hq wrd_2 n1, ob_s, cT_k, gd_d (k1 s), if_pos rfl, x_isW0 s tc hq wrd_3 n2, ob_s, if_pos rfl, x_isW0 s tc hq wrd_5 n3, ob_s, if_pos rfl, x_isW0 s tc hq wrd_7 n4, ob_s, if_pos rfl, x_isW0 s tc hq wrd_8 n5, ob_s, if_pos rfl, x_isW1 s tc hq wrd_9 e, ob_s, if_neg (by decide)]
      simp only [bg, k2, ob2_s, cT_k, a1, k1 s, one0, gd_t, ob_s, ob2_s, ob4_s, sm_l, sm_r, ac_s, decide_true, decide_false, eq_self, ne_eq, not_false_eq_true, not_true_eq_false, if_true, if_false, ite_true, ite_false, reduceIte, or_true, true_or, or_false, false_or, and_true, true_and, Bool.false_eq_true, reduceCtorEq]
    · show F_X12_readHouseLine 59 (rfT hM K G (tW b n q) q) = some (0, rfT hM (up2 K 60 (8) (-1)) G (tD b n (tN b n q)) (tN b n q))
      have f2 := m_num0' (g := q) sM tm1 p0 x0 e2
      have g2 : F_X12_sets 59 8 (-1) (rfT hM K G (tD b n (tN b n q)) (tN b n q)) = _ := m_sets0 sM (x := 8) (by omega)
      unfold F_X12_readHouseLine F_X12_readHouseLine_b0
      rw [m_isW0 sM tm hq wrd_42 n1, ob_s, m_k, gd_d (k59 sM), if_pos rfl, m_isW0 sM tm hq wrd_43 n2, ob_s, if_pos rfl, m_isW0 sM tm hq wrd_45 n3, ob_s, if_pos rfl, m_isW0 sM tm hq wrd_47 n4, ob_s, if_pos rfl, m_isW0 sM tm hq wrd_48 n5, ob_s, if_pos rfl, m_isW1 sM tm hq wrd_49 e, ob_s, if_neg (by decide)]
      simp only [f2, g2, ob2_s, m_k, k59 sM, one0, neg1, gd_t, ob_s, ob2_s, ob4_s, sm_l, sm_r, ac_s, decide_true, decide_false, eq_self, ne_eq, not_false_eq_true, not_true_eq_false, if_true, if_false, ite_true, ite_false, reduceIte, or_true, true_or, or_false, false_or, and_true, true_and, Bool.false_eq_true, reduceCtorEq]
    · exact fun x y1 y2 => by simp only [up2_a _ _ _ _ _ y1, up2_a _ _ _ _ _ y2]
    · exact fun x y => by simp only [up2_a _ _ _ _ _ y]
  have k2 : F_X3_keep 36 1 0 99999 1 (cT h b n (up2 J 37 (4 * i) 5) F (tN b n q) t (-1)) = _ := x_keep1 s tc1 h1 j02 hi (x := 1) (by omega) e2
  have v2 := tVl_lt h1 e2.2.1
  have tc2 : TC b n (up2 (up2 J 37 (4 * i) 5) 37 (4 * i + 1) (nI (tVl b n (tN b n q)))) F := TC_up tc1 (by decide)
  have tm2 : TM b n (up2 K 60 (8) (nI (tVl b n (tN b n q)))) G := TM_up tm1 (by decide)
  have p2 : tD b n (tN b n q) ≤ n := tTo_le isDi b h1
  have x2 := tN_d h1 e2.1
  refine HO_ok rel0 (J' := (up2 (up2 J 37 (4 * i) 5) 37 (4 * i + 1) (nI (tVl b n (tN b n q))))) (q' := (tN b n (tN b n q))) (t' := (nI (tVl b n (tN b n q)))) (p' := (tD b n (tN b n q))) (g' := (tN b n q)) (k := 5) (a := (tVl b n (tN b n q))) (c := _) (d := _) ?_ (up2 K 60 (8) (nI (tVl b n (tN b n q)))) (fun hM sM => ?_) p2 x2 ?_ ?_ ?_ ?_ ?_ ?_ rfl rfl (show _ ≤ 99999 from tOk_le (m := 99999) h1 e2) ?_ ?_ ?_ ?_
  · show F_X3_readLine 36 1 3 (cT h b n J F q t (-1)) = some (1, cT h b n (up2 (up2 J 37 (4 * i) 5) 37 (4 * i + 1) (nI (tVl b n (tN b n q)))) F (tN b n (tN b n q)) (nI (tVl b n (tN b n q))) (-1))
    unfold F_X3_readLine F_X3_readLine_b0
    rw [x_isW0 s tc hq wrd_2 n1, ob_s, cT_k, gd_d (k1 s), if_pos rfl, x_isW0 s tc hq wrd_3 n2, ob_s, if_pos rfl, x_isW0 s tc hq wrd_5 n3, ob_s, if_pos rfl, x_isW0 s tc hq wrd_7 n4, ob_s, if_pos rfl, x_isW0 s tc hq wrd_8 n5, ob_s, if_pos rfl, x_isW1 s tc hq wrd_9 e, ob_s, if_neg (by decide)]
    simp only [bg, k2, ob2_s, cT_k, a1, k1 s, one0, gd_t, ob_s, ob2_s, ob4_s, sm_l, sm_r, ac_s, decide_true, decide_false, eq_self, ne_eq, not_false_eq_true, not_true_eq_false, if_true, if_false, ite_true, ite_false, reduceIte, or_true, true_or, or_false, false_or, and_true, true_and, Bool.false_eq_true, reduceCtorEq]
  · show F_X12_readHouseLine 59 (rfT hM K G (tW b n q) q) = some (1, rfT hM (up2 K 60 (8) (nI (tVl b n (tN b n q)))) G (tD b n (tN b n q)) (tN b n q))
    have f2 := m_num1' (g := q) sM tm1 p0 x0 e2
    have g2 : F_X12_sets 59 8 (nI (tVl b n (tN b n q))) (rfT hM K G (tD b n (tN b n q)) (tN b n q)) = _ := m_sets1 sM (x := 8) (by omega) (by omega)
    unfold F_X12_readHouseLine F_X12_readHouseLine_b0
    rw [m_isW0 sM tm hq wrd_42 n1, ob_s, m_k, gd_d (k59 sM), if_pos rfl, m_isW0 sM tm hq wrd_43 n2, ob_s, if_pos rfl, m_isW0 sM tm hq wrd_45 n3, ob_s, if_pos rfl, m_isW0 sM tm hq wrd_47 n4, ob_s, if_pos rfl, m_isW0 sM tm hq wrd_48 n5, ob_s, if_pos rfl, m_isW1 sM tm hq wrd_49 e, ob_s, if_neg (by decide)]
    simp only [f2, g2, ob2_s, m_k, k59 sM, one0, neg1, gd_t, ob_s, ob2_s, ob4_s, sm_l, sm_r, ac_s, decide_true, decide_false, eq_self, ne_eq, not_false_eq_true, not_true_eq_false, if_true, if_false, ite_true, ite_false, reduceIte, or_true, true_or, or_false, false_or, and_true, true_and, Bool.false_eq_true, reduceCtorEq]
  · exact fun x y1 y2 => by simp only [up2_a _ _ _ _ _ y1, up2_a _ _ _ _ _ y2]
  · simp (disch := decide) only [up2_a, up2_k]
  · exact fun x y => by simp (disch := omega) only [up2_a, up2_k]
  · exact fun x y => by simp only [up2_a _ _ _ _ _ y]
  · exact nN_e (by simp (disch := omega) only [up2_e, up2_k, up2_a] <;> rfl) (by omega)
  · exact nN_e (by simp (disch := omega) only [up2_e, up2_k, up2_a]) (by omega)
  · simp only [up2_r]
    rfl
  · simp (disch := decide) only [up2_a, up2_k, up2_e, d2] <;> rfl
  · simp (disch := decide) only [up2_a, up2_k, up2_e, d3] <;> rfl
  · simp (disch := decide) only [up2_a, up2_k, up2_e, d4] <;> rfl
set_option maxHeartbeats 2000000 in
theorem hl_slide (s : Sh h) (i0 : Inv (K 60)) (rel : RHs b n F J0 K0 G0 i J K G) (hq : q ≤ n) (hi : i < 14) (n1 : ¬ tIs b n q w_room) (n2 : ¬ tIs b n q w_guest) (n3 : ¬ tIs b n q w_trunk) (n4 : ¬ tIs b n q w_stove) (n5 : ¬ tIs b n q w_snow) (n6 : ¬ tIs b n q w_bound) (e : tIs b n q w_slide) : HO h b n F J0 K0 G0 i (F_X3_readLine 36 1 3 (cT h b n J F q t (-1))) (fun hM => F_X12_readHouseLine 59 (rfT hM K G (tW b n q) q)) := by
  have rel0 := rel
  obtain ⟨tc, tm, e0, eG, gJ, gK, ok, eF, d2, d3, d4⟩ := rel
  obtain ⟨a1, a2, a3, a4⟩ := k36 s
  have r8 := iR8 i0
  have g5 := iG5 i0
  have t6 := iT6 i0
  have eR : K 60 0 = nI (nR (K 60)) := iR i0
  have eGn : K 60 1 = nI (nG (K 60)) := iG i0
  have eTn : K 60 2 = nI (nT (K 60)) := iT i0
  have h0 := hq
  have h1 := tN_le (b := b) h0
  have h2 := tN_le (b := b) h1
  have p0 : tW b n q ≤ n := tTo_le isLe b hq
  have x0 : tS b n (tW b n q) = tN b n q := tN_w (tIs_lt (by decide) e)
  have bg := x_begin (t := t) (w := -1) s tc hq e0 hi 6
  have tc1 : TC b n (up2 J 37 (4 * i) 6) F := TC_up tc (by decide)
  have tm1 : TM b n K G := tm
  have j02 : (up2 J 37 (4 * i) 6) 36 0 = nI i := by simp (disch := decide) only [up2_a, up2_k, e0]
  by_cases e2 : tOk b n (tN b n q) 0 99999
  rotate_left
  · have k2 : F_X3_keep 36 1 0 99999 1 (cT h b n (up2 J 37 (4 * i) 6) F (tN b n q) t (-1)) = _ := x_keep0 s tc1 h1 e2 _
    refine HO_no rel0 (J' := (up2 J 37 (4 * i) 6)) (q' := (tN b n q)) (t' := t) (f := (tN b n q)) (p' := tD b n (tN b n q)) ?_ (up2 K 60 (9) (-1)) (fun hM sM => ?_) ?_ ?_
    · show F_X3_readLine 36 1 3 (cT h b n J F q t (-1)) = some (0, cT h b n (up2 J 37 (4 * i) 6) F (tN b n q) t (nI (tN b n q)))
      unfold F_X3_readLine F_X3_readLine_b0
      rw [x_isW0 s tc hq wrd_2 n1, ob_s, cT_k, gd_d (k1 s), if_pos rfl, x_isW0 s tc hq wrd_3 n2, ob_s, if_pos rfl, x_isW0 s tc hq wrd_5 n3, ob_s, if_pos rfl, x_isW0 s tc hq wrd_7 n4, ob_s, if_pos rfl, x_isW0 s tc hq wrd_8 n5, ob_s, if_pos rfl, x_isW0 s tc hq wrd_9 n6, ob_s, if_pos rfl, x_isW1 s tc hq wrd_10 e, ob_s, if_neg (by decide)]
      simp only [bg, k2, ob2_s, cT_k, a1, k1 s, one0, gd_t, ob_s, ob2_s, ob4_s, sm_l, sm_r, ac_s, decide_true, decide_false, eq_self, ne_eq, not_false_eq_true, not_true_eq_false, if_true, if_false, ite_true, ite_false, reduceIte, or_true, true_or, or_false, false_or, and_true, true_and, Bool.false_eq_true, reduceCtorEq]
    · show F_X12_readHouseLine 59 (rfT hM K G (tW b n q) q) = some (0, rfT hM (up2 K 60 (9) (-1)) G (tD b n (tN b n q)) (tN b n q))
      have f2 := m_num0' (g := q) sM tm1 p0 x0 e2
      have g2 : F_X12_sets 59 9 (-1) (rfT hM K G (tD b n (tN b n q)) (tN b n q)) = _ := m_sets0 sM (x := 9) (by omega)
      unfold F_X12_readHouseLine F_X12_readHouseLine_b0
      rw [m_isW0 sM tm hq wrd_42 n1, ob_s, m_k, gd_d (k59 sM), if_pos rfl, m_isW0 sM tm hq wrd_43 n2, ob_s, if_pos rfl, m_isW0 sM tm hq wrd_45 n3, ob_s, if_pos rfl, m_isW0 sM tm hq wrd_47 n4, ob_s, if_pos rfl, m_isW0 sM tm hq wrd_48 n5, ob_s, if_pos rfl, m_isW0 sM tm hq wrd_49 n6, ob_s, if_pos rfl, m_isW1 sM tm hq wrd_50 e, ob_s, if_neg (by decide)]
      simp only [f2, g2, ob2_s, m_k, k59 sM, one0, neg1, gd_t, ob_s, ob2_s, ob4_s, sm_l, sm_r, ac_s, decide_true, decide_false, eq_self, ne_eq, not_false_eq_true, not_true_eq_false, if_true, if_false, ite_true, ite_false, reduceIte, or_true, true_or, or_false, false_or, and_true, true_and, Bool.false_eq_true, reduceCtorEq]
    · exact fun x y1 y2 => by simp only [up2_a _ _ _ _ _ y1, up2_a _ _ _ _ _ y2]
    · exact fun x y => by simp only [up2_a _ _ _ _ _ y]
  have k2 : F_X3_keep 36 1 0 99999 1 (cT h b n (up2 J 37 (4 * i) 6) F (tN b n q) t (-1)) = _ := x_keep1 s tc1 h1 j02 hi (x := 1) (by omega) e2
  have v2 := tVl_lt h1 e2.2.1
  have tc2 : TC b n (up2 (up2 J 37 (4 * i) 6) 37 (4 * i + 1) (nI (tVl b n (tN b n q)))) F := TC_up tc1 (by decide)
  have tm2 : TM b n (up2 K 60 (9) (nI (tVl b n (tN b n q)))) G := TM_up tm1 (by decide)
  have p2 : tD b n (tN b n q) ≤ n := tTo_le isDi b h1
  have x2 := tN_d h1 e2.1
  refine HO_ok rel0 (J' := (up2 (up2 J 37 (4 * i) 6) 37 (4 * i + 1) (nI (tVl b n (tN b n q))))) (q' := (tN b n (tN b n q))) (t' := (nI (tVl b n (tN b n q)))) (p' := (tD b n (tN b n q))) (g' := (tN b n q)) (k := 6) (a := (tVl b n (tN b n q))) (c := _) (d := _) ?_ (up2 K 60 (9) (nI (tVl b n (tN b n q)))) (fun hM sM => ?_) p2 x2 ?_ ?_ ?_ ?_ ?_ ?_ rfl rfl (show _ ≤ 99999 from tOk_le (m := 99999) h1 e2) ?_ ?_ ?_ ?_
  · show F_X3_readLine 36 1 3 (cT h b n J F q t (-1)) = some (1, cT h b n (up2 (up2 J 37 (4 * i) 6) 37 (4 * i + 1) (nI (tVl b n (tN b n q)))) F (tN b n (tN b n q)) (nI (tVl b n (tN b n q))) (-1))
    unfold F_X3_readLine F_X3_readLine_b0
    rw [x_isW0 s tc hq wrd_2 n1, ob_s, cT_k, gd_d (k1 s), if_pos rfl, x_isW0 s tc hq wrd_3 n2, ob_s, if_pos rfl, x_isW0 s tc hq wrd_5 n3, ob_s, if_pos rfl, x_isW0 s tc hq wrd_7 n4, ob_s, if_pos rfl, x_isW0 s tc hq wrd_8 n5, ob_s, if_pos rfl, x_isW0 s tc hq wrd_9 n6, ob_s, if_pos rfl, x_isW1 s tc hq wrd_10 e, ob_s, if_neg (by decide)]
    simp only [bg, k2, ob2_s, cT_k, a1, k1 s, one0, gd_t, ob_s, ob2_s, ob4_s, sm_l, sm_r, ac_s, decide_true, decide_false, eq_self, ne_eq, not_false_eq_true, not_true_eq_false, if_true, if_false, ite_true, ite_false, reduceIte, or_true, true_or, or_false, false_or, and_true, true_and, Bool.false_eq_true, reduceCtorEq]
  · show F_X12_readHouseLine 59 (rfT hM K G (tW b n q) q) = some (1, rfT hM (up2 K 60 (9) (nI (tVl b n (tN b n q)))) G (tD b n (tN b n q)) (tN b n q))
    have f2 := m_num1' (g := q) sM tm1 p0 x0 e2
    have g2 : F_X12_sets 59 9 (nI (tVl b n (tN b n q))) (rfT hM K G (tD b n (tN b n q)) (tN b n q)) = _ := m_sets1 sM (x := 9) (by omega) (by omega)
    unfold F_X12_readHouseLine F_X12_readHouseLine_b0
    rw [m_isW0 sM tm hq wrd_42 n1, ob_s, m_k, gd_d (k59 sM), if_pos rfl, m_isW0 sM tm hq wrd_43 n2, ob_s, if_pos rfl, m_isW0 sM tm hq wrd_45 n3, ob_s, if_pos rfl, m_isW0 sM tm hq wrd_47 n4, ob_s, if_pos rfl, m_isW0 sM tm hq wrd_48 n5, ob_s, if_pos rfl, m_isW0 sM tm hq wrd_49 n6, ob_s, if_pos rfl, m_isW1 sM tm hq wrd_50 e, ob_s, if_neg (by decide)]
    simp only [f2, g2, ob2_s, m_k, k59 sM, one0, neg1, gd_t, ob_s, ob2_s, ob4_s, sm_l, sm_r, ac_s, decide_true, decide_false, eq_self, ne_eq, not_false_eq_true, not_true_eq_false, if_true, if_false, ite_true, ite_false, reduceIte, or_true, true_or, or_false, false_or, and_true, true_and, Bool.false_eq_true, reduceCtorEq]
  · exact fun x y1 y2 => by simp only [up2_a _ _ _ _ _ y1, up2_a _ _ _ _ _ y2]
  · simp (disch := decide) only [up2_a, up2_k]
  · exact fun x y => by simp (disch := omega) only [up2_a, up2_k]
  · exact fun x y => by simp only [up2_a _ _ _ _ _ y]
  · exact nN_e (by simp (disch := omega) only [up2_e, up2_k, up2_a] <;> rfl) (by omega)
  · exact nN_e (by simp (disch := omega) only [up2_e, up2_k, up2_a]) (by omega)
  · simp only [up2_r]
    rfl
  · simp (disch := decide) only [up2_a, up2_k, up2_e, d2] <;> rfl
  · simp (disch := decide) only [up2_a, up2_k, up2_e, d3] <;> rfl
  · simp (disch := decide) only [up2_a, up2_k, up2_e, d4] <;> rfl
set_option maxHeartbeats 2000000 in
theorem hl_stove (s : Sh h) (i0 : Inv (K 60)) (rel : RHs b n F J0 K0 G0 i J K G) (hq : q ≤ n) (hi : i < 14) (n1 : ¬ tIs b n q w_room) (n2 : ¬ tIs b n q w_guest) (n3 : ¬ tIs b n q w_trunk) (e : tIs b n q w_stove) : HO h b n F J0 K0 G0 i (F_X3_readLine 36 1 3 (cT h b n J F q t (-1))) (fun hM => F_X12_readHouseLine 59 (rfT hM K G (tW b n q) q)) := by
  have rel0 := rel
  obtain ⟨tc, tm, e0, eG, gJ, gK, ok, eF, d2, d3, d4⟩ := rel
  obtain ⟨a1, a2, a3, a4⟩ := k36 s
  have r8 := iR8 i0
  have g5 := iG5 i0
  have t6 := iT6 i0
  have eR : K 60 0 = nI (nR (K 60)) := iR i0
  have eGn : K 60 1 = nI (nG (K 60)) := iG i0
  have eTn : K 60 2 = nI (nT (K 60)) := iT i0
  have h0 := hq
  have h1 := tN_le (b := b) h0
  have h2 := tN_le (b := b) h1
  have h3 := tN_le (b := b) h2
  have h4 := tN_le (b := b) h3
  have p0 : tW b n q ≤ n := tTo_le isLe b hq
  have x0 : tS b n (tW b n q) = tN b n q := tN_w (tIs_lt (by decide) e)
  have bg := x_begin (t := t) (w := -1) s tc hq e0 hi 3
  have tc1 : TC b n (up2 J 37 (4 * i) 3) F := TC_up tc (by decide)
  have tm1 : TM b n K G := tm
  have j02 : (up2 J 37 (4 * i) 3) 36 0 = nI i := by simp (disch := decide) only [up2_a, up2_k, e0]
  by_cases e2 : tOk b n (tN b n q) 0 999
  rotate_left
  · have k2 : F_X3_keep 36 1 0 999 1 (cT h b n (up2 J 37 (4 * i) 3) F (tN b n q) t (-1)) = _ := x_keep0 s tc1 h1 e2 _
    refine HO_no rel0 (J' := (up2 J 37 (4 * i) 3)) (q' := (tN b n q)) (t' := t) (f := (tN b n q)) (p' := tD b n (tN b n q)) ?_ (up2 K 60 (7) (-1)) (fun hM sM => ?_) ?_ ?_
    · show F_X3_readLine 36 1 3 (cT h b n J F q t (-1)) = some (0, cT h b n (up2 J 37 (4 * i) 3) F (tN b n q) t (nI (tN b n q)))
      unfold F_X3_readLine F_X3_readLine_b0
      rw [x_isW0 s tc hq wrd_2 n1, ob_s, cT_k, gd_d (k1 s), if_pos rfl, x_isW0 s tc hq wrd_3 n2, ob_s, if_pos rfl, x_isW0 s tc hq wrd_5 n3, ob_s, if_pos rfl, x_isW1 s tc hq wrd_7 e, ob_s, if_neg (by decide)]
      simp only [F_X3_readLine_b102, F_X3_readLine_b103, bg, k2, ob2_s, cT_k, a1, k1 s, one0, gd_t, ob_s, ob2_s, ob4_s, sm_l, sm_r, ac_s, decide_true, decide_false, eq_self, ne_eq, not_false_eq_true, not_true_eq_false, if_true, if_false, ite_true, ite_false, reduceIte, or_true, true_or, or_false, false_or, and_true, true_and, Bool.false_eq_true, reduceCtorEq]
    · show F_X12_readHouseLine 59 (rfT hM K G (tW b n q) q) = some (0, rfT hM (up2 K 60 (7) (-1)) G (tD b n (tN b n q)) (tN b n q))
      have f2 := m_num0' (g := q) sM tm1 p0 x0 e2
      have g2 : F_X12_sets 59 7 (-1) (rfT hM K G (tD b n (tN b n q)) (tN b n q)) = _ := m_sets0 sM (x := 7) (by omega)
      unfold F_X12_readHouseLine F_X12_readHouseLine_b0
      rw [m_isW0 sM tm hq wrd_42 n1, ob_s, m_k, gd_d (k59 sM), if_pos rfl, m_isW0 sM tm hq wrd_43 n2, ob_s, if_pos rfl, m_isW0 sM tm hq wrd_45 n3, ob_s, if_pos rfl, m_isW1 sM tm hq wrd_47 e, ob_s, if_neg (by decide)]
      simp only [F_X12_readStove, F_X12_readStove_b0, F_X12_readStove_b43, F_X12_readStove_b44, f2, g2, ob2_s, m_k, k59 sM, one0, neg1, gd_t, ob_s, ob2_s, ob4_s, sm_l, sm_r, ac_s, decide_true, decide_false, eq_self, ne_eq, not_false_eq_true, not_true_eq_false, if_true, if_false, ite_true, ite_false, reduceIte, or_true, true_or, or_false, false_or, and_true, true_and, Bool.false_eq_true, reduceCtorEq]
    · exact fun x y1 y2 => by simp only [up2_a _ _ _ _ _ y1, up2_a _ _ _ _ _ y2]
    · exact fun x y => by simp only [up2_a _ _ _ _ _ y]
  have k2 : F_X3_keep 36 1 0 999 1 (cT h b n (up2 J 37 (4 * i) 3) F (tN b n q) t (-1)) = _ := x_keep1 s tc1 h1 j02 hi (x := 1) (by omega) e2
  have v2 := tVl_lt h1 e2.2.1
  have tc2 : TC b n (up2 (up2 J 37 (4 * i) 3) 37 (4 * i + 1) (nI (tVl b n (tN b n q)))) F := TC_up tc1 (by decide)
  have tm2 : TM b n (up2 K 60 (7) (nI (tVl b n (tN b n q)))) G := TM_up tm1 (by decide)
  have p2 : tD b n (tN b n q) ≤ n := tTo_le isDi b h1
  have x2 := tN_d h1 e2.1
  by_cases e3 : tIs b n (tN b n (tN b n q)) w_in
  rotate_left
  · have k3 := x_takeW0 (t := (nI (tVl b n (tN b n q)))) (w := -1) s tc2 h2 wrd_4 e3
    refine HO_no rel0 (J' := (up2 (up2 J 37 (4 * i) 3) 37 (4 * i + 1) (nI (tVl b n (tN b n q))))) (q' := (tN b n (tN b n q))) (t' := (nI (tVl b n (tN b n q)))) (f := (tN b n (tN b n q))) (p' := tW b n (tN b n (tN b n q))) ?_ (up2 K 60 (7) (nI (tVl b n (tN b n q)))) (fun hM sM => ?_) ?_ ?_
    · show F_X3_readLine 36 1 3 (cT h b n J F q t (-1)) = some (0, cT h b n (up2 (up2 J 37 (4 * i) 3) 37 (4 * i + 1) (nI (tVl b n (tN b n q)))) F (tN b n (tN b n q)) (nI (tVl b n (tN b n q))) (nI (tN b n (tN b n q))))
      unfold F_X3_readLine F_X3_readLine_b0
      rw [x_isW0 s tc hq wrd_2 n1, ob_s, cT_k, gd_d (k1 s), if_pos rfl, x_isW0 s tc hq wrd_3 n2, ob_s, if_pos rfl, x_isW0 s tc hq wrd_5 n3, ob_s, if_pos rfl, x_isW1 s tc hq wrd_7 e, ob_s, if_neg (by decide)]
      simp only [F_X3_readLine_b102, F_X3_readLine_b103, bg, k2, k3, ob2_s, cT_k, a1, k1 s, one0, gd_t, ob_s, ob2_s, ob4_s, sm_l, sm_r, ac_s, decide_true, decide_false, eq_self, ne_eq, not_false_eq_true, not_true_eq_false, if_true, if_false, ite_true, ite_false, reduceIte, or_true, true_or, or_false, false_or, and_true, true_and, Bool.false_eq_true, reduceCtorEq]
    · show F_X12_readHouseLine 59 (rfT hM K G (tW b n q) q) = some (0, rfT hM (up2 K 60 (7) (nI (tVl b n (tN b n q)))) G (tW b n (tN b n (tN b n q))) (tN b n (tN b n q)))
      have f2 := m_num1' (g := q) sM tm1 p0 x0 e2
      have g2 : F_X12_sets 59 7 (nI (tVl b n (tN b n q))) (rfT hM K G (tD b n (tN b n q)) (tN b n q)) = _ := m_sets1 sM (x := 7) (by omega) (by omega)
      have f3 := m_need0' (g := (tN b n q)) sM tm2 p2 x2 wrd_44 e3
      unfold F_X12_readHouseLine F_X12_readHouseLine_b0
      rw [m_isW0 sM tm hq wrd_42 n1, ob_s, m_k, gd_d (k59 sM), if_pos rfl, m_isW0 sM tm hq wrd_43 n2, ob_s, if_pos rfl, m_isW0 sM tm hq wrd_45 n3, ob_s, if_pos rfl, m_isW1 sM tm hq wrd_47 e, ob_s, if_neg (by decide)]
      simp only [F_X12_readStove, F_X12_readStove_b0, F_X12_readStove_b43, F_X12_readStove_b44, f2, g2, f3, ob2_s, m_k, k59 sM, one0, neg1, gd_t, ob_s, ob2_s, ob4_s, sm_l, sm_r, ac_s, decide_true, decide_false, eq_self, ne_eq, not_false_eq_true, not_true_eq_false, if_true, if_false, ite_true, ite_false, reduceIte, or_true, true_or, or_false, false_or, and_true, true_and, Bool.false_eq_true, reduceCtorEq]
    · exact fun x y1 y2 => by simp only [up2_a _ _ _ _ _ y1, up2_a _ _ _ _ _ y2]
    · exact fun x y => by simp only [up2_a _ _ _ _ _ y]
  have k3 := x_takeW1 (t := (nI (tVl b n (tN b n q)))) (w := -1) s tc2 h2 wrd_4 e3
  have tc3 := tc2
  have tm3 := tm2
  have p3 : tW b n (tN b n (tN b n q)) ≤ n := tTo_le isLe b h2
  have x3 := tN_w (tIs_lt (by decide) e3)
  have j04 : (up2 (up2 J 37 (4 * i) 3) 37 (4 * i + 1) (nI (tVl b n (tN b n q)))) 36 0 = nI i := by simp (disch := decide) only [up2_a, up2_k, e0]
  have z4 : zI (cT h b n (up2 (up2 J 37 (4 * i) 3) 37 (4 * i + 1) (nI (tVl b n (tN b n q)))) F (tN b n (tN b n (tN b n q))) (nI (tVl b n (tN b n q))) (-1)) 36 2 = nI (nR (K 60)) := by rw [cT_a _ (by decide)]; simp (disch := decide) only [up2_a, up2_k, d2]
  have er4 : (up2 K 60 (7) (nI (tVl b n (tN b n q)))) 60 0 = nI (nR (K 60)) := by simp (disch := omega) only [up2_k, eR]
  by_cases e4 : tOk b n (tN b n (tN b n (tN b n q))) 0 (nI (nR (K 60)) - 1)
  rotate_left
  · have k4 : F_X3_keep 36 2 0 (nI (nR (K 60)) - 1) 1 (cT h b n (up2 (up2 J 37 (4 * i) 3) 37 (4 * i + 1) (nI (tVl b n (tN b n q)))) F (tN b n (tN b n (tN b n q))) (nI (tVl b n (tN b n q))) (-1)) = _ := x_keep0 s tc3 h3 e4 _
    refine HO_no rel0 (J' := (up2 (up2 J 37 (4 * i) 3) 37 (4 * i + 1) (nI (tVl b n (tN b n q))))) (q' := (tN b n (tN b n (tN b n q)))) (t' := (nI (tVl b n (tN b n q)))) (f := (tN b n (tN b n (tN b n q)))) (p' := tD b n (tN b n (tN b n (tN b n q)))) ?_ (up2 (up2 K 60 (7) (nI (tVl b n (tN b n q)))) 60 (6) (-1)) (fun hM sM => ?_) ?_ ?_
    · show F_X3_readLine 36 1 3 (cT h b n J F q t (-1)) = some (0, cT h b n (up2 (up2 J 37 (4 * i) 3) 37 (4 * i + 1) (nI (tVl b n (tN b n q)))) F (tN b n (tN b n (tN b n q))) (nI (tVl b n (tN b n q))) (nI (tN b n (tN b n (tN b n q)))))
      unfold F_X3_readLine F_X3_readLine_b0
      rw [x_isW0 s tc hq wrd_2 n1, ob_s, cT_k, gd_d (k1 s), if_pos rfl, x_isW0 s tc hq wrd_3 n2, ob_s, if_pos rfl, x_isW0 s tc hq wrd_5 n3, ob_s, if_pos rfl, x_isW1 s tc hq wrd_7 e, ob_s, if_neg (by decide)]
      simp only [F_X3_readLine_b102, F_X3_readLine_b103, bg, k2, k3, z4, k4, ob2_s, cT_k, a1, k1 s, one0, gd_t, ob_s, ob2_s, ob4_s, sm_l, sm_r, ac_s, decide_true, decide_false, eq_self, ne_eq, not_false_eq_true, not_true_eq_false, if_true, if_false, ite_true, ite_false, reduceIte, or_true, true_or, or_false, false_or, and_true, true_and, Bool.false_eq_true, reduceCtorEq]
    · show F_X12_readHouseLine 59 (rfT hM K G (tW b n q) q) = some (0, rfT hM (up2 (up2 K 60 (7) (nI (tVl b n (tN b n q)))) 60 (6) (-1)) G (tD b n (tN b n (tN b n (tN b n q)))) (tN b n (tN b n (tN b n q))))
      have f2 := m_num1' (g := q) sM tm1 p0 x0 e2
      have g2 : F_X12_sets 59 7 (nI (tVl b n (tN b n q))) (rfT hM K G (tD b n (tN b n q)) (tN b n q)) = _ := m_sets1 sM (x := 7) (by omega) (by omega)
      have f3 := m_need1' (g := (tN b n q)) sM tm2 p2 x2 wrd_44 e3
      have f4 := m_told0 (g := (tN b n (tN b n q))) sM tm3 p3 x3 er4 e4
      have g4 : F_X12_sets 59 6 (-1) (rfT hM (up2 K 60 (7) (nI (tVl b n (tN b n q)))) G (tD b n (tN b n (tN b n (tN b n q)))) (tN b n (tN b n (tN b n q)))) = _ := m_sets0 sM (x := 6) (by omega)
      unfold F_X12_readHouseLine F_X12_readHouseLine_b0
      rw [m_isW0 sM tm hq wrd_42 n1, ob_s, m_k, gd_d (k59 sM), if_pos rfl, m_isW0 sM tm hq wrd_43 n2, ob_s, if_pos rfl, m_isW0 sM tm hq wrd_45 n3, ob_s, if_pos rfl, m_isW1 sM tm hq wrd_47 e, ob_s, if_neg (by decide)]
      simp only [F_X12_readStove, F_X12_readStove_b0, F_X12_readStove_b43, F_X12_readStove_b44, f2, g2, f3, f4, g4, ob2_s, m_k, k59 sM, one0, neg1, gd_t, ob_s, ob2_s, ob4_s, sm_l, sm_r, ac_s, decide_true, decide_false, eq_self, ne_eq, not_false_eq_true, not_true_eq_false, if_true, if_false, ite_true, ite_false, reduceIte, or_true, true_or, or_false, false_or, and_true, true_and, Bool.false_eq_true, reduceCtorEq]
    · exact fun x y1 y2 => by simp only [up2_a _ _ _ _ _ y1, up2_a _ _ _ _ _ y2]
    · exact fun x y => by simp only [up2_a _ _ _ _ _ y]
  have k4 : F_X3_keep 36 2 0 (nI (nR (K 60)) - 1) 1 (cT h b n (up2 (up2 J 37 (4 * i) 3) 37 (4 * i + 1) (nI (tVl b n (tN b n q)))) F (tN b n (tN b n (tN b n q))) (nI (tVl b n (tN b n q))) (-1)) = _ := x_keep1 s tc3 h3 j04 hi (x := 2) (by omega) e4
  have v4 := tVl_lt h3 e4.2.1
  have u4 := tOk_lt h3 (by omega) e4
  have tc4 : TC b n (up2 (up2 (up2 J 37 (4 * i) 3) 37 (4 * i + 1) (nI (tVl b n (tN b n q)))) 37 (4 * i + 2) (nI (tVl b n (tN b n (tN b n (tN b n q)))))) F := TC_up tc3 (by decide)
  have tm4 : TM b n (up2 (up2 K 60 (7) (nI (tVl b n (tN b n q)))) 60 (6) (nI (tVl b n (tN b n (tN b n (tN b n q)))))) G := TM_up tm3 (by decide)
  have p4 : tD b n (tN b n (tN b n (tN b n q))) ≤ n := tTo_le isDi b h3
  have x4 := tN_d h3 e4.1
  refine HO_ok rel0 (J' := (up2 (up2 (up2 J 37 (4 * i) 3) 37 (4 * i + 1) (nI (tVl b n (tN b n q)))) 37 (4 * i + 2) (nI (tVl b n (tN b n (tN b n (tN b n q))))))) (q' := (tN b n (tN b n (tN b n (tN b n q))))) (t' := (nI (tVl b n (tN b n (tN b n (tN b n q)))))) (p' := (tD b n (tN b n (tN b n (tN b n q))))) (g' := (tN b n (tN b n (tN b n q)))) (k := 3) (a := (tVl b n (tN b n q))) (c := (tVl b n (tN b n (tN b n (tN b n q))))) (d := _) ?_ (up2 (up2 K 60 (7) (nI (tVl b n (tN b n q)))) 60 (6) (nI (tVl b n (tN b n (tN b n (tN b n q)))))) (fun hM sM => ?_) p4 x4 ?_ ?_ ?_ ?_ ?_ ?_ ?_ rfl (show _ ≤ 999 ∧ _ < nR (K 60) from ⟨tOk_le (m := 999) h1 e2, tOk_lt h3 (by omega) e4⟩) ?_ ?_ ?_ ?_
  · show F_X3_readLine 36 1 3 (cT h b n J F q t (-1)) = some (1, cT h b n (up2 (up2 (up2 J 37 (4 * i) 3) 37 (4 * i + 1) (nI (tVl b n (tN b n q)))) 37 (4 * i + 2) (nI (tVl b n (tN b n (tN b n (tN b n q)))))) F (tN b n (tN b n (tN b n (tN b n q)))) (nI (tVl b n (tN b n (tN b n (tN b n q))))) (-1))
    unfold F_X3_readLine F_X3_readLine_b0
    rw [x_isW0 s tc hq wrd_2 n1, ob_s, cT_k, gd_d (k1 s), if_pos rfl, x_isW0 s tc hq wrd_3 n2, ob_s, if_pos rfl, x_isW0 s tc hq wrd_5 n3, ob_s, if_pos rfl, x_isW1 s tc hq wrd_7 e, ob_s, if_neg (by decide)]
    simp only [F_X3_readLine_b102, F_X3_readLine_b103, bg, k2, k3, z4, k4, ob2_s, cT_k, a1, k1 s, one0, gd_t, ob_s, ob2_s, ob4_s, sm_l, sm_r, ac_s, decide_true, decide_false, eq_self, ne_eq, not_false_eq_true, not_true_eq_false, if_true, if_false, ite_true, ite_false, reduceIte, or_true, true_or, or_false, false_or, and_true, true_and, Bool.false_eq_true, reduceCtorEq]
  · show F_X12_readHouseLine 59 (rfT hM K G (tW b n q) q) = some (1, rfT hM (up2 (up2 K 60 (7) (nI (tVl b n (tN b n q)))) 60 (6) (nI (tVl b n (tN b n (tN b n (tN b n q)))))) G (tD b n (tN b n (tN b n (tN b n q)))) (tN b n (tN b n (tN b n q))))
    have f2 := m_num1' (g := q) sM tm1 p0 x0 e2
    have g2 : F_X12_sets 59 7 (nI (tVl b n (tN b n q))) (rfT hM K G (tD b n (tN b n q)) (tN b n q)) = _ := m_sets1 sM (x := 7) (by omega) (by omega)
    have f3 := m_need1' (g := (tN b n q)) sM tm2 p2 x2 wrd_44 e3
    have f4 := m_told1 (g := (tN b n (tN b n q))) sM tm3 p3 x3 er4 e4
    have g4 : F_X12_sets 59 6 (nI (tVl b n (tN b n (tN b n (tN b n q))))) (rfT hM (up2 K 60 (7) (nI (tVl b n (tN b n q)))) G (tD b n (tN b n (tN b n (tN b n q)))) (tN b n (tN b n (tN b n q)))) = _ := m_sets1 sM (x := 6) (by omega) (by omega)
    unfold F_X12_readHouseLine F_X12_readHouseLine_b0
    rw [m_isW0 sM tm hq wrd_42 n1, ob_s, m_k, gd_d (k59 sM), if_pos rfl, m_isW0 sM tm hq wrd_43 n2, ob_s, if_pos rfl, m_isW0 sM tm hq wrd_45 n3, ob_s, if_pos rfl, m_isW1 sM tm hq wrd_47 e, ob_s, if_neg (by decide)]
    simp only [F_X12_readStove, F_X12_readStove_b0, F_X12_readStove_b43, F_X12_readStove_b44, f2, g2, f3, f4, g4, ob2_s, m_k, k59 sM, one0, neg1, gd_t, ob_s, ob2_s, ob4_s, sm_l, sm_r, ac_s, decide_true, decide_false, eq_self, ne_eq, not_false_eq_true, not_true_eq_false, if_true, if_false, ite_true, ite_false, reduceIte, or_true, true_or, or_false, false_or, and_true, true_and, Bool.false_eq_true, reduceCtorEq]
  · exact fun x y1 y2 => by simp only [up2_a _ _ _ _ _ y1, up2_a _ _ _ _ _ y2]
  · simp (disch := decide) only [up2_a, up2_k]
  · exact fun x y => by simp (disch := omega) only [up2_a, up2_k]
  · exact fun x y => by simp only [up2_a _ _ _ _ _ y]
  · exact nN_e (by simp (disch := omega) only [up2_e, up2_k, up2_a] <;> rfl) (by omega)
  · exact nN_e (by simp (disch := omega) only [up2_e, up2_k, up2_a]) (by omega)
  · exact nN_e (by simp (disch := omega) only [up2_e, up2_k, up2_a]) (by omega)
  · simp only [up2_r]
    rfl
  · simp (disch := decide) only [up2_a, up2_k, up2_e, d2] <;> rfl
  · simp (disch := decide) only [up2_a, up2_k, up2_e, d3] <;> rfl
  · simp (disch := decide) only [up2_a, up2_k, up2_e, d4] <;> rfl
end HL1
