/-! THE HOUSE'S LINES: kinds, both sides (gen_hl.py) -/
section HL3
variable {h : Hp} {b : Nat → Int32} {n : Nat} {F : Nat → Int32} {J0 K0 J K : Nat → Nat → Int32} {G0 G : Nat → Int32} {q i : Nat} {t : Int32}
set_option maxHeartbeats 2000000 in
theorem hl_room (s : Sh h) (i0 : Inv (K 60)) (rel : RHs b n F J0 K0 G0 i J K G) (hq : q ≤ n) (hi : i < 14)  (e : tIs b n q w_room) : HO h b n F J0 K0 G0 i (F_X3_readLine 36 1 3 (cT h b n J F q t (-1))) (fun hM => F_X12_readHouseLine 59 (rfT hM K G (tW b n q) q)) := by
  have rel0 := rel
  obtain ⟨tc, tm, e0, eG, gJ, gK, ok, eF, d2, d3, d4⟩ := rel
  obtain ⟨a1, a2, a3, a4⟩ := k36 s
  have r8 := iR8 i0
  have g5 := iG5 i0
  have t6 := iT6 i0
  have eR : K 60 0 = nI (nR (K 60)) := iR i0
  have eGn : K 60 1 = nI (nG (K 60)) := iG i0
  have eTn : K 60 2 = nI (nT (K 60)) := iT i0
  have h0 := hq
  have h1 := tN_le (b := b) h0
  have h2 := tN_le (b := b) h1
  have h3 := tN_le (b := b) h2
  have h4 := tN_le (b := b) h3
  have p0 : tW b n q ≤ n := tTo_le isLe b hq
  have x0 : tS b n (tW b n q) = tN b n q := tN_w (tIs_lt (by decide) e)
  have z36 : zI (cT h b n J F q t (-1)) 36 2 = nI (nR (K 60)) := (cT_a _ (by decide)).trans d2
  by_cases full : nR (K 60) < 8
  rotate_left
  · have f8 : nR (K 60) = 8 := by omega
    have c8 : (nI (nR (K 60)) < (8 : Int32)) = False := by rw [f8]; exact eq_false (by decide)
    have m8 : (nI (nR (K 60)) = (8 : Int32)) = True := by rw [f8]; exact eq_true rfl
    have rf := x_refuse (b := b) (n := n) (J := J) (F := F) (q := q) (t := t) (w := -1) s
    refine HO_no rel0 (J' := J) (q' := q) (t' := t) (f := q) (p' := tW b n q) ?_ K (fun hM sM => ?_) (fun _ _ _ => rfl) (fun _ _ => rfl)
    · show F_X3_readLine 36 1 3 (cT h b n J F q t (-1)) = some (0, cT h b n J F q t (nI q))
      unfold F_X3_readLine F_X3_readLine_b0
      rw [x_isW1 s tc hq wrd_2 e, ob_s, cT_k, gd_d (k1 s), if_neg (by decide)]
      simp only [F_X3_readRoom, F_X3_readRoom_b0, F_X3_readRoom_b69, F_X3_readRoom_b70, z36, c8, rf, ob2_s, cT_k, a1, k1 s, one0, gd_t, ob_s, ob2_s, ob4_s, sm_l, sm_r, ac_s, decide_true, decide_false, eq_self, ne_eq, not_false_eq_true, not_true_eq_false, if_true, if_false, ite_true, ite_false, reduceIte, or_true, true_or, or_false, false_or, and_true, true_and, Bool.false_eq_true, reduceCtorEq]
    · show F_X12_readHouseLine 59 (rfT hM K G (tW b n q) q) = some (0, rfT hM K G (tW b n q) q)
      have fr : F_X12_rooms 59 (rfT hM K G (tW b n q) q) = some (nI (nR (K 60))) := by rw [m_rooms (show Sh (rfT hM K G (tW b n q) q) from sM), m_a _ (by decide), eR]
      unfold F_X12_readHouseLine F_X12_readHouseLine_b0
      rw [m_isW1 sM tm hq wrd_42 e, ob_s, m_k, gd_d (k59 sM), if_neg (by decide)]
      simp only [F_X12_readRoom, F_X12_readRoom_b0, F_X12_readRoom_b71, fr, m8, ob2_s, m_k, k59 sM, one0, neg1, gd_t, ob_s, ob2_s, ob4_s, sm_l, sm_r, ac_s, decide_true, decide_false, eq_self, ne_eq, not_false_eq_true, not_true_eq_false, if_true, if_false, ite_true, ite_false, reduceIte, or_true, true_or, or_false, false_or, and_true, true_and, Bool.false_eq_true, reduceCtorEq]
  have c8 : (nI (nR (K 60)) < (8 : Int32)) = True := eq_true (nI_lt (b := 8) full (by omega))
  have m8 : (nI (nR (K 60)) = (8 : Int32)) = False := eq_false (fun x => absurd ((nI_eq (b := 8) (by omega) (by omega)).mp x) (by omega))
  have bg := x_begin (t := t) (w := -1) s tc hq e0 hi 0
  have es : setI (cT h b n (up2 J 37 (4 * i) 0) F (tN b n q) t (-1)) 36 2 (zI (cT h b n (up2 J 37 (4 * i) 0) F (tN b n q) t (-1)) 36 2 + 1) = cT h b n (up2 (up2 J 37 (4 * i) 0) 36 2 (nI (nR (K 60) + 1))) F (tN b n q) t (-1) := by
    rw [cT_a _ (by decide), up2_a _ _ _ _ _ (by decide), d2, nS_1, cT_seta _ _ (by decide)]
  have tc1 : TC b n (up2 (up2 J 37 (4 * i) 0) 36 2 (nI (nR (K 60) + 1))) F := TC_up (TC_up tc (by decide)) (by decide)
  have tm1 : TM b n K G := tm
  have j02 : (up2 (up2 J 37 (4 * i) 0) 36 2 (nI (nR (K 60) + 1))) 36 0 = nI i := by simp (disch := decide) only [up2_a, up2_k, e0]
  by_cases e2 : tOk b n (tN b n q) 0 9
  rotate_left
  · have k2 : F_X3_keep 36 1 0 9 1 (cT h b n (up2 (up2 J 37 (4 * i) 0) 36 2 (nI (nR (K 60) + 1))) F (tN b n q) t (-1)) = _ := x_keep0 s tc1 h1 e2 _
    refine HO_no rel0 (J' := (up2 (up2 J 37 (4 * i) 0) 36 2 (nI (nR (K 60) + 1)))) (q' := (tN b n q)) (t' := t) (f := (tN b n q)) (p' := tD b n (tN b n q)) ?_ (up2 K 60 (11 + 4 * nR (K 60)) (-1)) (fun hM sM => ?_) ?_ ?_
    · show F_X3_readLine 36 1 3 (cT h b n J F q t (-1)) = some (0, cT h b n (up2 (up2 J 37 (4 * i) 0) 36 2 (nI (nR (K 60) + 1))) F (tN b n q) t (nI (tN b n q)))
      unfold F_X3_readLine F_X3_readLine_b0
      rw [x_isW1 s tc hq wrd_2 e, ob_s, cT_k, gd_d (k1 s), if_neg (by decide)]
      simp only [F_X3_readRoom, F_X3_readRoom_b0, F_X3_readRoom_b69, F_X3_readRoom_b70, z36, c8, bg, es, k2, ob2_s, cT_k, a1, k1 s, one0, gd_t, ob_s, ob2_s, ob4_s, sm_l, sm_r, ac_s, decide_true, decide_false, eq_self, ne_eq, not_false_eq_true, not_true_eq_false, if_true, if_false, ite_true, ite_false, reduceIte, or_true, true_or, or_false, false_or, and_true, true_and, Bool.false_eq_true, reduceCtorEq]
    · show F_X12_readHouseLine 59 (rfT hM K G (tW b n q) q) = some (0, rfT hM (up2 K 60 (11 + 4 * nR (K 60)) (-1)) G (tD b n (tN b n q)) (tN b n q))
      have fr : F_X12_rooms 59 (rfT hM K G (tW b n q) q) = some (nI (nR (K 60))) := by rw [m_rooms (show Sh (rfT hM K G (tW b n q) q) from sM), m_a _ (by decide), eR]
      have f2 := m_num0' (g := q) sM tm1 p0 x0 e2
      have g2 : F_X12_sets 59 (((11 : Int32) + ((4 : Int32) * nI (nR (K 60)))) + (0 : Int32)) (-1) (rfT hM K G (tD b n (tN b n q)) (tN b n q)) = some (0, rfT hM (up2 K 60 (11 + 4 * nR (K 60)) (-1)) G (tD b n (tN b n q)) (tN b n q)) := by rw [show (((11 : Int32) + ((4 : Int32) * nI (nR (K 60)))) + (0 : Int32)) = nI (11 + 4 * nR (K 60)) from ixR _ 0 11 rfl]; exact m_sets0 sM (by omega)
      unfold F_X12_readHouseLine F_X12_readHouseLine_b0
      rw [m_isW1 sM tm hq wrd_42 e, ob_s, m_k, gd_d (k59 sM), if_neg (by decide)]
      simp only [F_X12_readRoom, F_X12_readRoom_b0, F_X12_readRoom_b71, fr, m8, f2, g2, ob2_s, m_k, k59 sM, one0, neg1, gd_t, ob_s, ob2_s, ob4_s, sm_l, sm_r, ac_s, decide_true, decide_false, eq_self, ne_eq, not_false_eq_true, not_true_eq_false, if_true, if_false, ite_true, ite_false, reduceIte, or_true, true_or, or_false, false_or, and_true, true_and, Bool.false_eq_true, reduceCtorEq]
    · exact fun x y1 y2 => by simp only [up2_a _ _ _ _ _ y1, up2_a _ _ _ _ _ y2]
    · exact fun x y => by simp only [up2_a _ _ _ _ _ y]
  have k2 : F_X3_keep 36 1 0 9 1 (cT h b n (up2 (up2 J 37 (4 * i) 0) 36 2 (nI (nR (K 60) + 1))) F (tN b n q) t (-1)) = _ := x_keep1 s tc1 h1 j02 hi (x := 1) (by omega) e2
  have v2 := tVl_lt h1 e2.2.1
  have tc2 : TC b n (up2 (up2 (up2 J 37 (4 * i) 0) 36 2 (nI (nR (K 60) + 1))) 37 (4 * i + 1) (nI (tVl b n (tN b n q)))) F := TC_up tc1 (by decide)
  have tm2 : TM b n (up2 K 60 (11 + 4 * nR (K 60)) (nI (tVl b n (tN b n q)))) G := TM_up tm1 (by decide)
  have p2 : tD b n (tN b n q) ≤ n := tTo_le isDi b h1
  have x2 := tN_d h1 e2.1
  have j03 : (up2 (up2 (up2 J 37 (4 * i) 0) 36 2 (nI (nR (K 60) + 1))) 37 (4 * i + 1) (nI (tVl b n (tN b n q)))) 36 0 = nI i := by simp (disch := decide) only [up2_a, up2_k, e0]
  by_cases e3 : tOk b n (tN b n (tN b n q)) 0 9
  rotate_left
  · have k3 : F_X3_keep 36 2 0 9 1 (cT h b n (up2 (up2 (up2 J 37 (4 * i) 0) 36 2 (nI (nR (K 60) + 1))) 37 (4 * i + 1) (nI (tVl b n (tN b n q)))) F (tN b n (tN b n q)) (nI (tVl b n (tN b n q))) (-1)) = _ := x_keep0 s tc2 h2 e3 _
    refine HO_no rel0 (J' := (up2 (up2 (up2 J 37 (4 * i) 0) 36 2 (nI (nR (K 60) + 1))) 37 (4 * i + 1) (nI (tVl b n (tN b n q))))) (q' := (tN b n (tN b n q))) (t' := (nI (tVl b n (tN b n q)))) (f := (tN b n (tN b n q))) (p' := tD b n (tN b n (tN b n q))) ?_ (up2 (up2 K 60 (11 + 4 * nR (K 60)) (nI (tVl b n (tN b n q)))) 60 (12 + 4 * nR (K 60)) (-1)) (fun hM sM => ?_) ?_ ?_
    · show F_X3_readLine 36 1 3 (cT h b n J F q t (-1)) = some (0, cT h b n (up2 (up2 (up2 J 37 (4 * i) 0) 36 2 (nI (nR (K 60) + 1))) 37 (4 * i + 1) (nI (tVl b n (tN b n q)))) F (tN b n (tN b n q)) (nI (tVl b n (tN b n q))) (nI (tN b n (tN b n q))))
      unfold F_X3_readLine F_X3_readLine_b0
      rw [x_isW1 s tc hq wrd_2 e, ob_s, cT_k, gd_d (k1 s), if_neg (by decide)]
      simp only [F_X3_readRoom, F_X3_readRoom_b0, F_X3_readRoom_b69, F_X3_readRoom_b70, z36, c8, bg, es, k2, k3, ob2_s, cT_k, a1, k1 s, one0, gd_t, ob_s, ob2_s, ob4_s, sm_l, sm_r, ac_s, decide_true, decide_false, eq_self, ne_eq, not_false_eq_true, not_true_eq_false, if_true, if_false, ite_true, ite_false, reduceIte, or_true, true_or, or_false, false_or, and_true, true_and, Bool.false_eq_true, reduceCtorEq]
    · show F_X12_readHouseLine 59 (rfT hM K G (tW b n q) q) = some (0, rfT hM (up2 (up2 K 60 (11 + 4 * nR (K 60)) (nI (tVl b n (tN b n q)))) 60 (12 + 4 * nR (K 60)) (-1)) G (tD b n (tN b n (tN b n q))) (tN b n (tN b n q)))
      have fr : F_X12_rooms 59 (rfT hM K G (tW b n q) q) = some (nI (nR (K 60))) := by rw [m_rooms (show Sh (rfT hM K G (tW b n q) q) from sM), m_a _ (by decide), eR]
      have f2 := m_num1' (g := q) sM tm1 p0 x0 e2
      have g2 : F_X12_sets 59 (((11 : Int32) + ((4 : Int32) * nI (nR (K 60)))) + (0 : Int32)) (nI (tVl b n (tN b n q))) (rfT hM K G (tD b n (tN b n q)) (tN b n q)) = some (1, rfT hM (up2 K 60 (11 + 4 * nR (K 60)) (nI (tVl b n (tN b n q)))) G (tD b n (tN b n q)) (tN b n q)) := by rw [show (((11 : Int32) + ((4 : Int32) * nI (nR (K 60)))) + (0 : Int32)) = nI (11 + 4 * nR (K 60)) from ixR _ 0 11 rfl]; exact m_sets1 sM (by omega) (by omega)
      have f3 := m_num0' (g := (tN b n q)) sM tm2 p2 x2 e3
      have g3 : F_X12_sets 59 (((11 : Int32) + ((4 : Int32) * nI (nR (K 60)))) + (1 : Int32)) (-1) (rfT hM (up2 K 60 (11 + 4 * nR (K 60)) (nI (tVl b n (tN b n q)))) G (tD b n (tN b n (tN b n q))) (tN b n (tN b n q))) = some (0, rfT hM (up2 (up2 K 60 (11 + 4 * nR (K 60)) (nI (tVl b n (tN b n q)))) 60 (12 + 4 * nR (K 60)) (-1)) G (tD b n (tN b n (tN b n q))) (tN b n (tN b n q))) := by rw [show (((11 : Int32) + ((4 : Int32) * nI (nR (K 60)))) + (1 : Int32)) = nI (12 + 4 * nR (K 60)) from ixR _ 1 12 rfl]; exact m_sets0 sM (by omega)
      unfold F_X12_readHouseLine F_X12_readHouseLine_b0
      rw [m_isW1 sM tm hq wrd_42 e, ob_s, m_k, gd_d (k59 sM), if_neg (by decide)]
      simp only [F_X12_readRoom, F_X12_readRoom_b0, F_X12_readRoom_b71, fr, m8, f2, g2, f3, g3, ob2_s, m_k, k59 sM, one0, neg1, gd_t, ob_s, ob2_s, ob4_s, sm_l, sm_r, ac_s, decide_true, decide_false, eq_self, ne_eq, not_false_eq_true, not_true_eq_false, if_true, if_false, ite_true, ite_false, reduceIte, or_true, true_or, or_false, false_or, and_true, true_and, Bool.false_eq_true, reduceCtorEq]
    · exact fun x y1 y2 => by simp only [up2_a _ _ _ _ _ y1, up2_a _ _ _ _ _ y2]
    · exact fun x y => by simp only [up2_a _ _ _ _ _ y]
  have k3 : F_X3_keep 36 2 0 9 1 (cT h b n (up2 (up2 (up2 J 37 (4 * i) 0) 36 2 (nI (nR (K 60) + 1))) 37 (4 * i + 1) (nI (tVl b n (tN b n q)))) F (tN b n (tN b n q)) (nI (tVl b n (tN b n q))) (-1)) = _ := x_keep1 s tc2 h2 j03 hi (x := 2) (by omega) e3
  have v3 := tVl_lt h2 e3.2.1
  have tc3 : TC b n (up2 (up2 (up2 (up2 J 37 (4 * i) 0) 36 2 (nI (nR (K 60) + 1))) 37 (4 * i + 1) (nI (tVl b n (tN b n q)))) 37 (4 * i + 2) (nI (tVl b n (tN b n (tN b n q))))) F := TC_up tc2 (by decide)
  have tm3 : TM b n (up2 (up2 K 60 (11 + 4 * nR (K 60)) (nI (tVl b n (tN b n q)))) 60 (12 + 4 * nR (K 60)) (nI (tVl b n (tN b n (tN b n q))))) G := TM_up tm2 (by decide)
  have p3 : tD b n (tN b n (tN b n q)) ≤ n := tTo_le isDi b h2
  have x3 := tN_d h2 e3.1
  have j04 : (up2 (up2 (up2 (up2 J 37 (4 * i) 0) 36 2 (nI (nR (K 60) + 1))) 37 (4 * i + 1) (nI (tVl b n (tN b n q)))) 37 (4 * i + 2) (nI (tVl b n (tN b n (tN b n q))))) 36 0 = nI i := by simp (disch := decide) only [up2_a, up2_k, e0]
  by_cases e4 : tOk b n (tN b n (tN b n (tN b n q))) 1 4
  rotate_left
  · have k4 : F_X3_keep 36 3 1 4 1 (cT h b n (up2 (up2 (up2 (up2 J 37 (4 * i) 0) 36 2 (nI (nR (K 60) + 1))) 37 (4 * i + 1) (nI (tVl b n (tN b n q)))) 37 (4 * i + 2) (nI (tVl b n (tN b n (tN b n q))))) F (tN b n (tN b n (tN b n q))) (nI (tVl b n (tN b n (tN b n q)))) (-1)) = _ := x_keep0 s tc3 h3 e4 _
    refine HO_no rel0 (J' := (up2 (up2 (up2 (up2 J 37 (4 * i) 0) 36 2 (nI (nR (K 60) + 1))) 37 (4 * i + 1) (nI (tVl b n (tN b n q)))) 37 (4 * i + 2) (nI (tVl b n (tN b n (tN b n q)))))) (q' := (tN b n (tN b n (tN b n q)))) (t' := (nI (tVl b n (tN b n (tN b n q))))) (f := (tN b n (tN b n (tN b n q)))) (p' := tD b n (tN b n (tN b n (tN b n q)))) ?_ (up2 (up2 (up2 K 60 (11 + 4 * nR (K 60)) (nI (tVl b n (tN b n q)))) 60 (12 + 4 * nR (K 60)) (nI (tVl b n (tN b n (tN b n q))))) 60 (13 + 4 * nR (K 60)) (-1)) (fun hM sM => ?_) ?_ ?_
    · show F_X3_readLine 36 1 3 (cT h b n J F q t (-1)) = some (0, cT h b n (up2 (up2 (up2 (up2 J 37 (4 * i) 0) 36 2 (nI (nR (K 60) + 1))) 37 (4 * i + 1) (nI (tVl b n (tN b n q)))) 37 (4 * i + 2) (nI (tVl b n (tN b n (tN b n q))))) F (tN b n (tN b n (tN b n q))) (nI (tVl b n (tN b n (tN b n q)))) (nI (tN b n (tN b n (tN b n q)))))
      unfold F_X3_readLine F_X3_readLine_b0
      rw [x_isW1 s tc hq wrd_2 e, ob_s, cT_k, gd_d (k1 s), if_neg (by decide)]
      simp only [F_X3_readRoom, F_X3_readRoom_b0, F_X3_readRoom_b69, F_X3_readRoom_b70, z36, c8, bg, es, k2, k3, k4, ob2_s, cT_k, a1, k1 s, one0, gd_t, ob_s, ob2_s, ob4_s, sm_l, sm_r, ac_s, decide_true, decide_false, eq_self, ne_eq, not_false_eq_true, not_true_eq_false, if_true, if_false, ite_true, ite_false, reduceIte, or_true, true_or, or_false, false_or, and_true, true_and, Bool.false_eq_true, reduceCtorEq]
    · show F_X12_readHouseLine 59 (rfT hM K G (tW b n q) q) = some (0, rfT hM (up2 (up2 (up2 K 60 (11 + 4 * nR (K 60)) (nI (tVl b n (tN b n q)))) 60 (12 + 4 * nR (K 60)) (nI (tVl b n (tN b n (tN b n q))))) 60 (13 + 4 * nR (K 60)) (-1)) G (tD b n (tN b n (tN b n (tN b n q)))) (tN b n (tN b n (tN b n q))))
      have fr : F_X12_rooms 59 (rfT hM K G (tW b n q) q) = some (nI (nR (K 60))) := by rw [m_rooms (show Sh (rfT hM K G (tW b n q) q) from sM), m_a _ (by decide), eR]
      have f2 := m_num1' (g := q) sM tm1 p0 x0 e2
      have g2 : F_X12_sets 59 (((11 : Int32) + ((4 : Int32) * nI (nR (K 60)))) + (0 : Int32)) (nI (tVl b n (tN b n q))) (rfT hM K G (tD b n (tN b n q)) (tN b n q)) = some (1, rfT hM (up2 K 60 (11 + 4 * nR (K 60)) (nI (tVl b n (tN b n q)))) G (tD b n (tN b n q)) (tN b n q)) := by rw [show (((11 : Int32) + ((4 : Int32) * nI (nR (K 60)))) + (0 : Int32)) = nI (11 + 4 * nR (K 60)) from ixR _ 0 11 rfl]; exact m_sets1 sM (by omega) (by omega)
      have f3 := m_num1' (g := (tN b n q)) sM tm2 p2 x2 e3
      have g3 : F_X12_sets 59 (((11 : Int32) + ((4 : Int32) * nI (nR (K 60)))) + (1 : Int32)) (nI (tVl b n (tN b n (tN b n q)))) (rfT hM (up2 K 60 (11 + 4 * nR (K 60)) (nI (tVl b n (tN b n q)))) G (tD b n (tN b n (tN b n q))) (tN b n (tN b n q))) = some (1, rfT hM (up2 (up2 K 60 (11 + 4 * nR (K 60)) (nI (tVl b n (tN b n q)))) 60 (12 + 4 * nR (K 60)) (nI (tVl b n (tN b n (tN b n q))))) G (tD b n (tN b n (tN b n q))) (tN b n (tN b n q))) := by rw [show (((11 : Int32) + ((4 : Int32) * nI (nR (K 60)))) + (1 : Int32)) = nI (12 + 4 * nR (K 60)) from ixR _ 1 12 rfl]; exact m_sets1 sM (by omega) (by omega)
      have f4 := m_num0' (g := (tN b n (tN b n q))) sM tm3 p3 x3 e4
      have g4 : F_X12_sets 59 (((11 : Int32) + ((4 : Int32) * nI (nR (K 60)))) + (2 : Int32)) (-1) (rfT hM (up2 (up2 K 60 (11 + 4 * nR (K 60)) (nI (tVl b n (tN b n q)))) 60 (12 + 4 * nR (K 60)) (nI (tVl b n (tN b n (tN b n q))))) G (tD b n (tN b n (tN b n (tN b n q)))) (tN b n (tN b n (tN b n q)))) = some (0, rfT hM (up2 (up2 (up2 K 60 (11 + 4 * nR (K 60)) (nI (tVl b n (tN b n q)))) 60 (12 + 4 * nR (K 60)) (nI (tVl b n (tN b n (tN b n q))))) 60 (13 + 4 * nR (K 60)) (-1)) G (tD b n (tN b n (tN b n (tN b n q)))) (tN b n (tN b n (tN b n q)))) := by rw [show (((11 : Int32) + ((4 : Int32) * nI (nR (K 60)))) + (2 : Int32)) = nI (13 + 4 * nR (K 60)) from ixR _ 2 13 rfl]; exact m_sets0 sM (by omega)
      unfold F_X12_readHouseLine F_X12_readHouseLine_b0
      rw [m_isW1 sM tm hq wrd_42 e, ob_s, m_k, gd_d (k59 sM), if_neg (by decide)]
      simp only [F_X12_readRoom, F_X12_readRoom_b0, F_X12_readRoom_b71, fr, m8, f2, g2, f3, g3, f4, g4, ob2_s, m_k, k59 sM, one0, neg1, gd_t, ob_s, ob2_s, ob4_s, sm_l, sm_r, ac_s, decide_true, decide_false, eq_self, ne_eq, not_false_eq_true, not_true_eq_false, if_true, if_false, ite_true, ite_false, reduceIte, or_true, true_or, or_false, false_or, and_true, true_and, Bool.false_eq_true, reduceCtorEq]
    · exact fun x y1 y2 => by simp only [up2_a _ _ _ _ _ y1, up2_a _ _ _ _ _ y2]
    · exact fun x y => by simp only [up2_a _ _ _ _ _ y]
  have k4 : F_X3_keep 36 3 1 4 1 (cT h b n (up2 (up2 (up2 (up2 J 37 (4 * i) 0) 36 2 (nI (nR (K 60) + 1))) 37 (4 * i + 1) (nI (tVl b n (tN b n q)))) 37 (4 * i + 2) (nI (tVl b n (tN b n (tN b n q))))) F (tN b n (tN b n (tN b n q))) (nI (tVl b n (tN b n (tN b n q)))) (-1)) = _ := x_keep1 s tc3 h3 j04 hi (x := 3) (by omega) e4
  have v4 := tVl_lt h3 e4.2.1
  have tc4 : TC b n (up2 (up2 (up2 (up2 (up2 J 37 (4 * i) 0) 36 2 (nI (nR (K 60) + 1))) 37 (4 * i + 1) (nI (tVl b n (tN b n q)))) 37 (4 * i + 2) (nI (tVl b n (tN b n (tN b n q))))) 37 (4 * i + 3) (nI (tVl b n (tN b n (tN b n (tN b n q)))))) F := TC_up tc3 (by decide)
  have tm4 : TM b n (up2 (up2 (up2 K 60 (11 + 4 * nR (K 60)) (nI (tVl b n (tN b n q)))) 60 (12 + 4 * nR (K 60)) (nI (tVl b n (tN b n (tN b n q))))) 60 (13 + 4 * nR (K 60)) (nI (tVl b n (tN b n (tN b n (tN b n q)))))) G := TM_up tm3 (by decide)
  have p4 : tD b n (tN b n (tN b n (tN b n q))) ≤ n := tTo_le isDi b h3
  have x4 := tN_d h3 e4.1
  refine HO_ok rel0 (J' := (up2 (up2 (up2 (up2 (up2 J 37 (4 * i) 0) 36 2 (nI (nR (K 60) + 1))) 37 (4 * i + 1) (nI (tVl b n (tN b n q)))) 37 (4 * i + 2) (nI (tVl b n (tN b n (tN b n q))))) 37 (4 * i + 3) (nI (tVl b n (tN b n (tN b n (tN b n q))))))) (q' := (tN b n (tN b n (tN b n (tN b n q))))) (t' := (nI (tVl b n (tN b n (tN b n (tN b n q)))))) (p' := (tD b n (tN b n (tN b n (tN b n q))))) (g' := (tN b n (tN b n (tN b n q)))) (k := 0) (a := (tVl b n (tN b n q))) (c := (tVl b n (tN b n (tN b n q)))) (d := (tVl b n (tN b n (tN b n (tN b n q))))) ?_ (up2 (up2 (up2 (up2 (up2 K 60 (11 + 4 * nR (K 60)) (nI (tVl b n (tN b n q)))) 60 (12 + 4 * nR (K 60)) (nI (tVl b n (tN b n (tN b n q))))) 60 (13 + 4 * nR (K 60)) (nI (tVl b n (tN b n (tN b n (tN b n q)))))) 60 (14 + 4 * nR (K 60)) 0) 60 0 (nI (nR (K 60) + 1))) (fun hM sM => ?_) p4 x4 ?_ ?_ ?_ ?_ ?_ ?_ ?_ ?_ (show nR (K 60) < 8 ∧ _ ≤ 9 ∧ _ ≤ 9 ∧ 1 ≤ _ ∧ _ ≤ 4 from ⟨full, tOk_le (m := 9) h1 e2, tOk_le (m := 9) h2 e3, tOk_ge (m := 1) h3 (by omega) e4, tOk_le (m := 4) h3 e4⟩) ?_ ?_ ?_ ?_
  · show F_X3_readLine 36 1 3 (cT h b n J F q t (-1)) = some (1, cT h b n (up2 (up2 (up2 (up2 (up2 J 37 (4 * i) 0) 36 2 (nI (nR (K 60) + 1))) 37 (4 * i + 1) (nI (tVl b n (tN b n q)))) 37 (4 * i + 2) (nI (tVl b n (tN b n (tN b n q))))) 37 (4 * i + 3) (nI (tVl b n (tN b n (tN b n (tN b n q)))))) F (tN b n (tN b n (tN b n (tN b n q)))) (nI (tVl b n (tN b n (tN b n (tN b n q))))) (-1))
    unfold F_X3_readLine F_X3_readLine_b0
    rw [x_isW1 s tc hq wrd_2 e, ob_s, cT_k, gd_d (k1 s), if_neg (by decide)]
    simp only [F_X3_readRoom, F_X3_readRoom_b0, F_X3_readRoom_b69, F_X3_readRoom_b70, z36, c8, bg, es, k2, k3, k4, ob2_s, cT_k, a1, k1 s, one0, gd_t, ob_s, ob2_s, ob4_s, sm_l, sm_r, ac_s, decide_true, decide_false, eq_self, ne_eq, not_false_eq_true, not_true_eq_false, if_true, if_false, ite_true, ite_false, reduceIte, or_true, true_or, or_false, false_or, and_true, true_and, Bool.false_eq_true, reduceCtorEq]
  · show F_X12_readHouseLine 59 (rfT hM K G (tW b n q) q) = some (1, rfT hM (up2 (up2 (up2 (up2 (up2 K 60 (11 + 4 * nR (K 60)) (nI (tVl b n (tN b n q)))) 60 (12 + 4 * nR (K 60)) (nI (tVl b n (tN b n (tN b n q))))) 60 (13 + 4 * nR (K 60)) (nI (tVl b n (tN b n (tN b n (tN b n q)))))) 60 (14 + 4 * nR (K 60)) 0) 60 0 (nI (nR (K 60) + 1))) G (tD b n (tN b n (tN b n (tN b n q)))) (tN b n (tN b n (tN b n q))))
    have fr : F_X12_rooms 59 (rfT hM K G (tW b n q) q) = some (nI (nR (K 60))) := by rw [m_rooms (show Sh (rfT hM K G (tW b n q) q) from sM), m_a _ (by decide), eR]
    have f2 := m_num1' (g := q) sM tm1 p0 x0 e2
    have g2 : F_X12_sets 59 (((11 : Int32) + ((4 : Int32) * nI (nR (K 60)))) + (0 : Int32)) (nI (tVl b n (tN b n q))) (rfT hM K G (tD b n (tN b n q)) (tN b n q)) = some (1, rfT hM (up2 K 60 (11 + 4 * nR (K 60)) (nI (tVl b n (tN b n q)))) G (tD b n (tN b n q)) (tN b n q)) := by rw [show (((11 : Int32) + ((4 : Int32) * nI (nR (K 60)))) + (0 : Int32)) = nI (11 + 4 * nR (K 60)) from ixR _ 0 11 rfl]; exact m_sets1 sM (by omega) (by omega)
    have f3 := m_num1' (g := (tN b n q)) sM tm2 p2 x2 e3
    have g3 : F_X12_sets 59 (((11 : Int32) + ((4 : Int32) * nI (nR (K 60)))) + (1 : Int32)) (nI (tVl b n (tN b n (tN b n q)))) (rfT hM (up2 K 60 (11 + 4 * nR (K 60)) (nI (tVl b n (tN b n q)))) G (tD b n (tN b n (tN b n q))) (tN b n (tN b n q))) = some (1, rfT hM (up2 (up2 K 60 (11 + 4 * nR (K 60)) (nI (tVl b n (tN b n q)))) 60 (12 + 4 * nR (K 60)) (nI (tVl b n (tN b n (tN b n q))))) G (tD b n (tN b n (tN b n q))) (tN b n (tN b n q))) := by rw [show (((11 : Int32) + ((4 : Int32) * nI (nR (K 60)))) + (1 : Int32)) = nI (12 + 4 * nR (K 60)) from ixR _ 1 12 rfl]; exact m_sets1 sM (by omega) (by omega)
    have f4 := m_num1' (g := (tN b n (tN b n q))) sM tm3 p3 x3 e4
    have g4 : F_X12_sets 59 (((11 : Int32) + ((4 : Int32) * nI (nR (K 60)))) + (2 : Int32)) (nI (tVl b n (tN b n (tN b n (tN b n q))))) (rfT hM (up2 (up2 K 60 (11 + 4 * nR (K 60)) (nI (tVl b n (tN b n q)))) 60 (12 + 4 * nR (K 60)) (nI (tVl b n (tN b n (tN b n q))))) G (tD b n (tN b n (tN b n (tN b n q)))) (tN b n (tN b n (tN b n q)))) = some (1, rfT hM (up2 (up2 (up2 K 60 (11 + 4 * nR (K 60)) (nI (tVl b n (tN b n q)))) 60 (12 + 4 * nR (K 60)) (nI (tVl b n (tN b n (tN b n q))))) 60 (13 + 4 * nR (K 60)) (nI (tVl b n (tN b n (tN b n (tN b n q)))))) G (tD b n (tN b n (tN b n (tN b n q)))) (tN b n (tN b n (tN b n q)))) := by rw [show (((11 : Int32) + ((4 : Int32) * nI (nR (K 60)))) + (2 : Int32)) = nI (13 + 4 * nR (K 60)) from ixR _ 2 13 rfl]; exact m_sets1 sM (by omega) (by omega)
    have y1 : (((11 : Int32) + ((4 : Int32) * nI (nR (K 60)))) + (3 : Int32)) = nI (14 + 4 * nR (K 60)) := ixR _ 3 14 rfl
    have y2 := ix_t (show 14 + 4 * nR (K 60) < 5049 by omega) (by omega)
    have y3 := ncl (show 14 + 4 * nR (K 60) < 2147483648 by omega)
    have y4 : (up2 (up2 (up2 (up2 K 60 (11 + 4 * nR (K 60)) (nI (tVl b n (tN b n q)))) 60 (12 + 4 * nR (K 60)) (nI (tVl b n (tN b n (tN b n q))))) 60 (13 + 4 * nR (K 60)) (nI (tVl b n (tN b n (tN b n (tN b n q)))))) 60 (14 + 4 * nR (K 60)) 0) 60 0 = nI (nR (K 60)) := by simp (disch := omega) only [up2_k, eR]
    unfold F_X12_readHouseLine F_X12_readHouseLine_b0
    rw [m_isW1 sM tm hq wrd_42 e, ob_s, m_k, gd_d (k59 sM), if_neg (by decide)]
    simp only [F_X12_readRoom, F_X12_readRoom_b0, F_X12_readRoom_b71, fr, m8, f2, g2, f3, g3, f4, g4, y1, y2, y3, y4, m_R, m_l, r59_1 sM, k60 sM, l60 sM, m_seta _ _ (show 60 ≠ 59 by decide), m_a _ (show 60 ≠ 59 by decide), show ix (0 : Int32) 5049 = true from by decide, show ((0 : Int32)).toNatClampNeg = 0 from rfl, nS_1, ob2_s, m_k, k59 sM, one0, neg1, gd_t, ob_s, ob2_s, ob4_s, sm_l, sm_r, ac_s, decide_true, decide_false, eq_self, ne_eq, not_false_eq_true, not_true_eq_false, if_true, if_false, ite_true, ite_false, reduceIte, or_true, true_or, or_false, false_or, and_true, true_and, Bool.false_eq_true, reduceCtorEq]
  · exact fun x y1 y2 => by simp only [up2_a _ _ _ _ _ y1, up2_a _ _ _ _ _ y2]
  · simp (disch := decide) only [up2_a, up2_k]
  · exact fun x y => by simp (disch := omega) only [up2_a, up2_k]
  · exact fun x y => by simp only [up2_a _ _ _ _ _ y]
  · exact nN_e (by simp (disch := omega) only [up2_e, up2_k, up2_a] <;> rfl) (by omega)
  · exact nN_e (by simp (disch := omega) only [up2_e, up2_k, up2_a]) (by omega)
  · exact nN_e (by simp (disch := omega) only [up2_e, up2_k, up2_a]) (by omega)
  · exact nN_e (by simp (disch := omega) only [up2_e, up2_k, up2_a]) (by omega)
  · simp only [up2_r]
    rfl
  · simp (disch := decide) only [up2_a, up2_k, up2_e, d2] <;> rfl
  · simp (disch := decide) only [up2_a, up2_k, up2_e, d3] <;> rfl
  · simp (disch := decide) only [up2_a, up2_k, up2_e, d4] <;> rfl
end HL3
