/-! THE HOUSE'S LINES: kinds, both sides (gen_hl.py) -/
section HL5
variable {h : Hp} {b : Nat → Int32} {n : Nat} {F : Nat → Int32} {J0 K0 J K : Nat → Nat → Int32} {G0 G : Nat → Int32} {q i : Nat} {t : Int32}
set_option maxHeartbeats 2000000 in
theorem hl_trunk (s : Sh h) (i0 : Inv (K 60)) (rel : RHs b n F J0 K0 G0 i J K G) (hq : q ≤ n) (hi : i < 14) (n1 : ¬ tIs b n q w_room) (n2 : ¬ tIs b n q w_guest) (e : tIs b n q w_trunk) : HO h b n F J0 K0 G0 i (F_X3_readLine 36 1 3 (cT h b n J F q t (-1))) (fun hM => F_X12_readHouseLine 59 (rfT hM K G (tW b n q) q)) := by
  have rel0 := rel
  obtain ⟨tc, tm, e0, eG, gJ, gK, ok, eF, d2, d3, d4⟩ := rel
  obtain ⟨a1, a2, a3, a4⟩ := k36 s
  have r8 := iR8 i0
  have g5 := iG5 i0
  have t6 := iT6 i0
  have eR : K 60 0 = nI (nR (K 60)) := iR i0
  have eGn : K 60 1 = nI (nG (K 60)) := iG i0
  have eTn : K 60 2 = nI (nT (K 60)) := iT i0
  have h0 := hq
  have h1 := tN_le (b := b) h0
  have h2 := tN_le (b := b) h1
  have h3 := tN_le (b := b) h2
  have h4 := tN_le (b := b) h3
  have h5 := tN_le (b := b) h4
  have h6 := tN_le (b := b) h5
  have p0 : tW b n q ≤ n := tTo_le isLe b hq
  have x0 : tS b n (tW b n q) = tN b n q := tN_w (tIs_lt (by decide) e)
  have z36 : zI (cT h b n J F q t (-1)) 36 4 = nI (nT (K 60)) := (cT_a _ (by decide)).trans d4
  by_cases full : nT (K 60) < 6
  rotate_left
  · have f8 : nT (K 60) = 6 := by omega
    have c8 : (nI (nT (K 60)) < (6 : Int32)) = False := by rw [f8]; exact eq_false (by decide)
    have m8 : (nI (nT (K 60)) = (6 : Int32)) = True := by rw [f8]; exact eq_true rfl
    have rf := x_refuse (b := b) (n := n) (J := J) (F := F) (q := q) (t := t) (w := -1) s
    refine HO_no rel0 (J' := J) (q' := q) (t' := t) (f := q) (p' := tW b n q) ?_ K (fun hM sM => ?_) (fun _ _ _ => rfl) (fun _ _ => rfl)
    · show F_X3_readLine 36 1 3 (cT h b n J F q t (-1)) = some (0, cT h b n J F q t (nI q))
      unfold F_X3_readLine F_X3_readLine_b0
      rw [x_isW0 s tc hq wrd_2 n1, ob_s, cT_k, gd_d (k1 s), if_pos rfl, x_isW0 s tc hq wrd_3 n2, ob_s, if_pos rfl, x_isW1 s tc hq wrd_5 e, ob_s, if_neg (by decide)]
      simp only [F_X3_readTrunk, F_X3_readTrunk_b0, F_X3_readTrunk_b97, F_X3_readTrunk_b98, z36, c8, rf, ob2_s, cT_k, a1, k1 s, one0, gd_t, ob_s, ob2_s, ob4_s, sm_l, sm_r, ac_s, decide_true, decide_false, eq_self, ne_eq, not_false_eq_true, not_true_eq_false, if_true, if_false, ite_true, ite_false, reduceIte, or_true, true_or, or_false, false_or, and_true, true_and, Bool.false_eq_true, reduceCtorEq]
    · show F_X12_readHouseLine 59 (rfT hM K G (tW b n q) q) = some (0, rfT hM K G (tW b n q) q)
      have fr : F_X12_trunks 59 (rfT hM K G (tW b n q) q) = some (nI (nT (K 60))) := by rw [m_trunks (show Sh (rfT hM K G (tW b n q) q) from sM), m_a _ (by decide), eTn]
      unfold F_X12_readHouseLine F_X12_readHouseLine_b0
      rw [m_isW0 sM tm hq wrd_42 n1, ob_s, m_k, gd_d (k59 sM), if_pos rfl, m_isW0 sM tm hq wrd_43 n2, ob_s, if_pos rfl, m_isW1 sM tm hq wrd_45 e, ob_s, if_neg (by decide)]
      simp only [F_X12_readTrunk, F_X12_readTrunk_b0, F_X12_readTrunk_b92, fr, m8, ob2_s, m_k, k59 sM, one0, neg1, gd_t, ob_s, ob2_s, ob4_s, sm_l, sm_r, ac_s, decide_true, decide_false, eq_self, ne_eq, not_false_eq_true, not_true_eq_false, if_true, if_false, ite_true, ite_false, reduceIte, or_true, true_or, or_false, false_or, and_true, true_and, Bool.false_eq_true, reduceCtorEq]
  have c8 : (nI (nT (K 60)) < (6 : Int32)) = True := eq_true (nI_lt (b := 6) full (by omega))
  have m8 : (nI (nT (K 60)) = (6 : Int32)) = False := eq_false (fun x => absurd ((nI_eq (b := 6) (by omega) (by omega)).mp x) (by omega))
  have bg := x_begin (t := t) (w := -1) s tc hq e0 hi 2
  have es : setI (cT h b n (up2 J 37 (4 * i) 2) F (tN b n q) t (-1)) 36 4 (zI (cT h b n (up2 J 37 (4 * i) 2) F (tN b n q) t (-1)) 36 4 + 1) = cT h b n (up2 (up2 J 37 (4 * i) 2) 36 4 (nI (nT (K 60) + 1))) F (tN b n q) t (-1) := by
    rw [cT_a _ (by decide), up2_a _ _ _ _ _ (by decide), d4, nS_1, cT_seta _ _ (by decide)]
  have tc1 : TC b n (up2 (up2 J 37 (4 * i) 2) 36 4 (nI (nT (K 60) + 1))) F := TC_up (TC_up tc (by decide)) (by decide)
  have tm1 : TM b n K G := tm
  have j02 : (up2 (up2 J 37 (4 * i) 2) 36 4 (nI (nT (K 60) + 1))) 36 0 = nI i := by simp (disch := decide) only [up2_a, up2_k, e0]
  by_cases e2 : tOk b n (tN b n q) 0 300
  rotate_left
  · have k2 : F_X3_keep 36 1 0 300 1 (cT h b n (up2 (up2 J 37 (4 * i) 2) 36 4 (nI (nT (K 60) + 1))) F (tN b n q) t (-1)) = _ := x_keep0 s tc1 h1 e2 _
    refine HO_no rel0 (J' := (up2 (up2 J 37 (4 * i) 2) 36 4 (nI (nT (K 60) + 1)))) (q' := (tN b n q)) (t' := t) (f := (tN b n q)) (p' := tD b n (tN b n q)) ?_ (up2 K 60 (53 + 3 * nT (K 60)) (-1)) (fun hM sM => ?_) ?_ ?_
    · show F_X3_readLine 36 1 3 (cT h b n J F q t (-1)) = some (0, cT h b n (up2 (up2 J 37 (4 * i) 2) 36 4 (nI (nT (K 60) + 1))) F (tN b n q) t (nI (tN b n q)))
      unfold F_X3_readLine F_X3_readLine_b0
      rw [x_isW0 s tc hq wrd_2 n1, ob_s, cT_k, gd_d (k1 s), if_pos rfl, x_isW0 s tc hq wrd_3 n2, ob_s, if_pos rfl, x_isW1 s tc hq wrd_5 e, ob_s, if_neg (by decide)]
      simp only [F_X3_readTrunk, F_X3_readTrunk_b0, F_X3_readTrunk_b97, F_X3_readTrunk_b98, z36, c8, bg, es, k2, ob2_s, cT_k, a1, k1 s, one0, gd_t, ob_s, ob2_s, ob4_s, sm_l, sm_r, ac_s, decide_true, decide_false, eq_self, ne_eq, not_false_eq_true, not_true_eq_false, if_true, if_false, ite_true, ite_false, reduceIte, or_true, true_or, or_false, false_or, and_true, true_and, Bool.false_eq_true, reduceCtorEq]
    · show F_X12_readHouseLine 59 (rfT hM K G (tW b n q) q) = some (0, rfT hM (up2 K 60 (53 + 3 * nT (K 60)) (-1)) G (tD b n (tN b n q)) (tN b n q))
      have fr : F_X12_trunks 59 (rfT hM K G (tW b n q) q) = some (nI (nT (K 60))) := by rw [m_trunks (show Sh (rfT hM K G (tW b n q) q) from sM), m_a _ (by decide), eTn]
      have yA := ixT (nT (K 60))
      have yB : nI (53 + 3 * nT (K 60)) + (1 : Int32) = nI (54 + 3 * nT (K 60)) := by rw [← ixT]; exact ixT1 _
      have yC : nI (53 + 3 * nT (K 60)) + (2 : Int32) = nI (55 + 3 * nT (K 60)) := by rw [← ixT]; exact ixT2 _
      have yD := ix_t (show 53 + 3 * nT (K 60) < 5049 by omega) (by omega)
      have yE := ncl (show 53 + 3 * nT (K 60) < 2147483648 by omega)
      have f2 := m_num0' (g := q) sM tm1 p0 x0 e2
      have g2 : F_X12_sets 59 (nI (53 + 3 * nT (K 60))) (-1) (rfT hM K G (tD b n (tN b n q)) (tN b n q)) = _ := m_sets0 sM (x := 53 + 3 * nT (K 60)) (by omega)
      unfold F_X12_readHouseLine F_X12_readHouseLine_b0
      rw [m_isW0 sM tm hq wrd_42 n1, ob_s, m_k, gd_d (k59 sM), if_pos rfl, m_isW0 sM tm hq wrd_43 n2, ob_s, if_pos rfl, m_isW1 sM tm hq wrd_45 e, ob_s, if_neg (by decide)]
      simp only [F_X12_readTrunk, F_X12_readTrunk_b0, F_X12_readTrunk_b92, fr, m8, yA, yB, yC, yD, yE, m_R, m_l, r59_1 sM, k60 sM, l60 sM, f2, g2, ob2_s, m_k, k59 sM, one0, neg1, gd_t, ob_s, ob2_s, ob4_s, sm_l, sm_r, ac_s, decide_true, decide_false, eq_self, ne_eq, not_false_eq_true, not_true_eq_false, if_true, if_false, ite_true, ite_false, reduceIte, or_true, true_or, or_false, false_or, and_true, true_and, Bool.false_eq_true, reduceCtorEq]
    · exact fun x y1 y2 => by simp only [up2_a _ _ _ _ _ y1, up2_a _ _ _ _ _ y2]
    · exact fun x y => by simp only [up2_a _ _ _ _ _ y]
  have k2 : F_X3_keep 36 1 0 300 1 (cT h b n (up2 (up2 J 37 (4 * i) 2) 36 4 (nI (nT (K 60) + 1))) F (tN b n q) t (-1)) = _ := x_keep1 s tc1 h1 j02 hi (x := 1) (by omega) e2
  have v2 := tVl_lt h1 e2.2.1
  have tc2 : TC b n (up2 (up2 (up2 J 37 (4 * i) 2) 36 4 (nI (nT (K 60) + 1))) 37 (4 * i + 1) (nI (tVl b n (tN b n q)))) F := TC_up tc1 (by decide)
  have tm2 : TM b n (up2 K 60 (53 + 3 * nT (K 60)) (nI (tVl b n (tN b n q)))) G := TM_up tm1 (by decide)
  have p2 : tD b n (tN b n q) ≤ n := tTo_le isDi b h1
  have x2 := tN_d h1 e2.1
  by_cases e3 : tIs b n (tN b n (tN b n q)) w_to
  rotate_left
  · have k3 := x_takeW0 (t := (nI (tVl b n (tN b n q)))) (w := -1) s tc2 h2 wrd_6 e3
    refine HO_no rel0 (J' := (up2 (up2 (up2 J 37 (4 * i) 2) 36 4 (nI (nT (K 60) + 1))) 37 (4 * i + 1) (nI (tVl b n (tN b n q))))) (q' := (tN b n (tN b n q))) (t' := (nI (tVl b n (tN b n q)))) (f := (tN b n (tN b n q))) (p' := tW b n (tN b n (tN b n q))) ?_ (up2 K 60 (53 + 3 * nT (K 60)) (nI (tVl b n (tN b n q)))) (fun hM sM => ?_) ?_ ?_
    · show F_X3_readLine 36 1 3 (cT h b n J F q t (-1)) = some (0, cT h b n (up2 (up2 (up2 J 37 (4 * i) 2) 36 4 (nI (nT (K 60) + 1))) 37 (4 * i + 1) (nI (tVl b n (tN b n q)))) F (tN b n (tN b n q)) (nI (tVl b n (tN b n q))) (nI (tN b n (tN b n q))))
      unfold F_X3_readLine F_X3_readLine_b0
      rw [x_isW0 s tc hq wrd_2 n1, ob_s, cT_k, gd_d (k1 s), if_pos rfl, x_isW0 s tc hq wrd_3 n2, ob_s, if_pos rfl, x_isW1 s tc hq wrd_5 e, ob_s, if_neg (by decide)]
      simp only [F_X3_readTrunk, F_X3_readTrunk_b0, F_X3_readTrunk_b97, F_X3_readTrunk_b98, z36, c8, bg, es, k2, k3, ob2_s, cT_k, a1, k1 s, one0, gd_t, ob_s, ob2_s, ob4_s, sm_l, sm_r, ac_s, decide_true, decide_false, eq_self, ne_eq, not_false_eq_true, not_true_eq_false, if_true, if_false, ite_true, ite_false, reduceIte, or_true, true_or, or_false, false_or, and_true, true_and, Bool.false_eq_true, reduceCtorEq]
    · show F_X12_readHouseLine 59 (rfT hM K G (tW b n q) q) = some (0, rfT hM (up2 K 60 (53 + 3 * nT (K 60)) (nI (tVl b n (tN b n q)))) G (tW b n (tN b n (tN b n q))) (tN b n (tN b n q)))
      have fr : F_X12_trunks 59 (rfT hM K G (tW b n q) q) = some (nI (nT (K 60))) := by rw [m_trunks (show Sh (rfT hM K G (tW b n q) q) from sM), m_a _ (by decide), eTn]
      have yA := ixT (nT (K 60))
      have yB : nI (53 + 3 * nT (K 60)) + (1 : Int32) = nI (54 + 3 * nT (K 60)) := by rw [← ixT]; exact ixT1 _
      have yC : nI (53 + 3 * nT (K 60)) + (2 : Int32) = nI (55 + 3 * nT (K 60)) := by rw [← ixT]; exact ixT2 _
      have yD := ix_t (show 53 + 3 * nT (K 60) < 5049 by omega) (by omega)
      have yE := ncl (show 53 + 3 * nT (K 60) < 2147483648 by omega)
      have f2 := m_num1' (g := q) sM tm1 p0 x0 e2
      have g2 : F_X12_sets 59 (nI (53 + 3 * nT (K 60))) (nI (tVl b n (tN b n q))) (rfT hM K G (tD b n (tN b n q)) (tN b n q)) = _ := m_sets1 sM (x := 53 + 3 * nT (K 60)) (by omega) (by omega)
      have f3 := m_need0' (g := (tN b n q)) sM tm2 p2 x2 wrd_46 e3
      unfold F_X12_readHouseLine F_X12_readHouseLine_b0
      rw [m_isW0 sM tm hq wrd_42 n1, ob_s, m_k, gd_d (k59 sM), if_pos rfl, m_isW0 sM tm hq wrd_43 n2, ob_s, if_pos rfl, m_isW1 sM tm hq wrd_45 e, ob_s, if_neg (by decide)]
      simp only [F_X12_readTrunk, F_X12_readTrunk_b0, F_X12_readTrunk_b92, fr, m8, yA, yB, yC, yD, yE, m_R, m_l, r59_1 sM, k60 sM, l60 sM, f2, g2, f3, ob2_s, m_k, k59 sM, one0, neg1, gd_t, ob_s, ob2_s, ob4_s, sm_l, sm_r, ac_s, decide_true, decide_false, eq_self, ne_eq, not_false_eq_true, not_true_eq_false, if_true, if_false, ite_true, ite_false, reduceIte, or_true, true_or, or_false, false_or, and_true, true_and, Bool.false_eq_true, reduceCtorEq]
    · exact fun x y1 y2 => by simp only [up2_a _ _ _ _ _ y1, up2_a _ _ _ _ _ y2]
    · exact fun x y => by simp only [up2_a _ _ _ _ _ y]
  have k3 := x_takeW1 (t := (nI (tVl b n (tN b n q)))) (w := -1) s tc2 h2 wrd_6 e3
  have tc3 := tc2
  have tm3 := tm2
  have p3 : tW b n (tN b n (tN b n q)) ≤ n := tTo_le isLe b h2
  have x3 := tN_w (tIs_lt (by decide) e3)
  have j04 : (up2 (up2 (up2 J 37 (4 * i) 2) 36 4 (nI (nT (K 60) + 1))) 37 (4 * i + 1) (nI (tVl b n (tN b n q)))) 36 0 = nI i := by simp (disch := decide) only [up2_a, up2_k, e0]
  have z4 : zI (cT h b n (up2 (up2 (up2 J 37 (4 * i) 2) 36 4 (nI (nT (K 60) + 1))) 37 (4 * i + 1) (nI (tVl b n (tN b n q)))) F (tN b n (tN b n (tN b n q))) (nI (tVl b n (tN b n q))) (-1)) 1 5 = (nI (tVl b n (tN b n q))) := cT_5
  by_cases e4 : tOk b n (tN b n (tN b n (tN b n q))) (nI (tVl b n (tN b n q))) 300
  rotate_left
  · have k4 : F_X3_keep 36 2 (nI (tVl b n (tN b n q))) 300 1 (cT h b n (up2 (up2 (up2 J 37 (4 * i) 2) 36 4 (nI (nT (K 60) + 1))) 37 (4 * i + 1) (nI (tVl b n (tN b n q)))) F (tN b n (tN b n (tN b n q))) (nI (tVl b n (tN b n q))) (-1)) = _ := x_keep0 s tc3 h3 e4 _
    refine HO_no rel0 (J' := (up2 (up2 (up2 J 37 (4 * i) 2) 36 4 (nI (nT (K 60) + 1))) 37 (4 * i + 1) (nI (tVl b n (tN b n q))))) (q' := (tN b n (tN b n (tN b n q)))) (t' := (nI (tVl b n (tN b n q)))) (f := (tN b n (tN b n (tN b n q)))) (p' := tD b n (tN b n (tN b n (tN b n q)))) ?_ (up2 (up2 K 60 (53 + 3 * nT (K 60)) (nI (tVl b n (tN b n q)))) 60 (54 + 3 * nT (K 60)) (-1)) (fun hM sM => ?_) ?_ ?_
    · show F_X3_readLine 36 1 3 (cT h b n J F q t (-1)) = some (0, cT h b n (up2 (up2 (up2 J 37 (4 * i) 2) 36 4 (nI (nT (K 60) + 1))) 37 (4 * i + 1) (nI (tVl b n (tN b n q)))) F (tN b n (tN b n (tN b n q))) (nI (tVl b n (tN b n q))) (nI (tN b n (tN b n (tN b n q)))))
      unfold F_X3_readLine F_X3_readLine_b0
      rw [x_isW0 s tc hq wrd_2 n1, ob_s, cT_k, gd_d (k1 s), if_pos rfl, x_isW0 s tc hq wrd_3 n2, ob_s, if_pos rfl, x_isW1 s tc hq wrd_5 e, ob_s, if_neg (by decide)]
      simp only [F_X3_readTrunk, F_X3_readTrunk_b0, F_X3_readTrunk_b97, F_X3_readTrunk_b98, z36, c8, bg, es, k2, k3, z4, k4, ob2_s, cT_k, a1, k1 s, one0, gd_t, ob_s, ob2_s, ob4_s, sm_l, sm_r, ac_s, decide_true, decide_false, eq_self, ne_eq, not_false_eq_true, not_true_eq_false, if_true, if_false, ite_true, ite_false, reduceIte, or_true, true_or, or_false, false_or, and_true, true_and, Bool.false_eq_true, reduceCtorEq]
    · show F_X12_readHouseLine 59 (rfT hM K G (tW b n q) q) = some (0, rfT hM (up2 (up2 K 60 (53 + 3 * nT (K 60)) (nI (tVl b n (tN b n q)))) 60 (54 + 3 * nT (K 60)) (-1)) G (tD b n (tN b n (tN b n (tN b n q)))) (tN b n (tN b n (tN b n q))))
      have fr : F_X12_trunks 59 (rfT hM K G (tW b n q) q) = some (nI (nT (K 60))) := by rw [m_trunks (show Sh (rfT hM K G (tW b n q) q) from sM), m_a _ (by decide), eTn]
      have yA := ixT (nT (K 60))
      have yB : nI (53 + 3 * nT (K 60)) + (1 : Int32) = nI (54 + 3 * nT (K 60)) := by rw [← ixT]; exact ixT1 _
      have yC : nI (53 + 3 * nT (K 60)) + (2 : Int32) = nI (55 + 3 * nT (K 60)) := by rw [← ixT]; exact ixT2 _
      have yD := ix_t (show 53 + 3 * nT (K 60) < 5049 by omega) (by omega)
      have yE := ncl (show 53 + 3 * nT (K 60) < 2147483648 by omega)
      have f2 := m_num1' (g := q) sM tm1 p0 x0 e2
      have g2 : F_X12_sets 59 (nI (53 + 3 * nT (K 60))) (nI (tVl b n (tN b n q))) (rfT hM K G (tD b n (tN b n q)) (tN b n q)) = _ := m_sets1 sM (x := 53 + 3 * nT (K 60)) (by omega) (by omega)
      have f3 := m_need1' (g := (tN b n q)) sM tm2 p2 x2 wrd_46 e3
      have zt : zI (rfT hM (up2 K 60 (53 + 3 * nT (K 60)) (nI (tVl b n (tN b n q)))) G (tW b n (tN b n (tN b n q))) (tN b n (tN b n q))) 60 (53 + 3 * nT (K 60)) = (nI (tVl b n (tN b n q))) := by rw [m_a _ (by decide)]; simp (disch := omega) only [up2_e, up2_k]
      have f4 := m_num0' (g := (tN b n (tN b n q))) sM tm3 p3 x3 e4
      have g4 : F_X12_sets 59 (nI (54 + 3 * nT (K 60))) (-1) (rfT hM (up2 K 60 (53 + 3 * nT (K 60)) (nI (tVl b n (tN b n q)))) G (tD b n (tN b n (tN b n (tN b n q)))) (tN b n (tN b n (tN b n q)))) = _ := m_sets0 sM (x := 54 + 3 * nT (K 60)) (by omega)
      unfold F_X12_readHouseLine F_X12_readHouseLine_b0
      rw [m_isW0 sM tm hq wrd_42 n1, ob_s, m_k, gd_d (k59 sM), if_pos rfl, m_isW0 sM tm hq wrd_43 n2, ob_s, if_pos rfl, m_isW1 sM tm hq wrd_45 e, ob_s, if_neg (by decide)]
      simp only [F_X12_readTrunk, F_X12_readTrunk_b0, F_X12_readTrunk_b92, fr, m8, yA, yB, yC, yD, yE, m_R, m_l, r59_1 sM, k60 sM, l60 sM, f2, g2, f3, zt, f4, g4, ob2_s, m_k, k59 sM, one0, neg1, gd_t, ob_s, ob2_s, ob4_s, sm_l, sm_r, ac_s, decide_true, decide_false, eq_self, ne_eq, not_false_eq_true, not_true_eq_false, if_true, if_false, ite_true, ite_false, reduceIte, or_true, true_or, or_false, false_or, and_true, true_and, Bool.false_eq_true, reduceCtorEq]
    · exact fun x y1 y2 => by simp only [up2_a _ _ _ _ _ y1, up2_a _ _ _ _ _ y2]
    · exact fun x y => by simp only [up2_a _ _ _ _ _ y]
  have k4 : F_X3_keep 36 2 (nI (tVl b n (tN b n q))) 300 1 (cT h b n (up2 (up2 (up2 J 37 (4 * i) 2) 36 4 (nI (nT (K 60) + 1))) 37 (4 * i + 1) (nI (tVl b n (tN b n q)))) F (tN b n (tN b n (tN b n q))) (nI (tVl b n (tN b n q))) (-1)) = _ := x_keep1 s tc3 h3 j04 hi (x := 2) (by omega) e4
  have v4 := tVl_lt h3 e4.2.1
  have tc4 : TC b n (up2 (up2 (up2 (up2 J 37 (4 * i) 2) 36 4 (nI (nT (K 60) + 1))) 37 (4 * i + 1) (nI (tVl b n (tN b n q)))) 37 (4 * i + 2) (nI (tVl b n (tN b n (tN b n (tN b n q)))))) F := TC_up tc3 (by decide)
  have tm4 : TM b n (up2 (up2 K 60 (53 + 3 * nT (K 60)) (nI (tVl b n (tN b n q)))) 60 (54 + 3 * nT (K 60)) (nI (tVl b n (tN b n (tN b n (tN b n q)))))) G := TM_up tm3 (by decide)
  have p4 : tD b n (tN b n (tN b n (tN b n q))) ≤ n := tTo_le isDi b h3
  have x4 := tN_d h3 e4.1
  by_cases e5 : tIs b n (tN b n (tN b n (tN b n (tN b n q)))) w_in
  rotate_left
  · have k5 := x_takeW0 (t := (nI (tVl b n (tN b n (tN b n (tN b n q)))))) (w := -1) s tc4 h4 wrd_4 e5
    refine HO_no rel0 (J' := (up2 (up2 (up2 (up2 J 37 (4 * i) 2) 36 4 (nI (nT (K 60) + 1))) 37 (4 * i + 1) (nI (tVl b n (tN b n q)))) 37 (4 * i + 2) (nI (tVl b n (tN b n (tN b n (tN b n q))))))) (q' := (tN b n (tN b n (tN b n (tN b n q))))) (t' := (nI (tVl b n (tN b n (tN b n (tN b n q)))))) (f := (tN b n (tN b n (tN b n (tN b n q))))) (p' := tW b n (tN b n (tN b n (tN b n (tN b n q))))) ?_ (up2 (up2 K 60 (53 + 3 * nT (K 60)) (nI (tVl b n (tN b n q)))) 60 (54 + 3 * nT (K 60)) (nI (tVl b n (tN b n (tN b n (tN b n q)))))) (fun hM sM => ?_) ?_ ?_
    · show F_X3_readLine 36 1 3 (cT h b n J F q t (-1)) = some (0, cT h b n (up2 (up2 (up2 (up2 J 37 (4 * i) 2) 36 4 (nI (nT (K 60) + 1))) 37 (4 * i + 1) (nI (tVl b n (tN b n q)))) 37 (4 * i + 2) (nI (tVl b n (tN b n (tN b n (tN b n q)))))) F (tN b n (tN b n (tN b n (tN b n q)))) (nI (tVl b n (tN b n (tN b n (tN b n q))))) (nI (tN b n (tN b n (tN b n (tN b n q))))))
      unfold F_X3_readLine F_X3_readLine_b0
      rw [x_isW0 s tc hq wrd_2 n1, ob_s, cT_k, gd_d (k1 s), if_pos rfl, x_isW0 s tc hq wrd_3 n2, ob_s, if_pos rfl, x_isW1 s tc hq wrd_5 e, ob_s, if_neg (by decide)]
      simp only [F_X3_readTrunk, F_X3_readTrunk_b0, F_X3_readTrunk_b97, F_X3_readTrunk_b98, z36, c8, bg, es, k2, k3, z4, k4, k5, ob2_s, cT_k, a1, k1 s, one0, gd_t, ob_s, ob2_s, ob4_s, sm_l, sm_r, ac_s, decide_true, decide_false, eq_self, ne_eq, not_false_eq_true, not_true_eq_false, if_true, if_false, ite_true, ite_false, reduceIte, or_true, true_or, or_false, false_or, and_true, true_and, Bool.false_eq_true, reduceCtorEq]
    · show F_X12_readHouseLine 59 (rfT hM K G (tW b n q) q) = some (0, rfT hM (up2 (up2 K 60 (53 + 3 * nT (K 60)) (nI (tVl b n (tN b n q)))) 60 (54 + 3 * nT (K 60)) (nI (tVl b n (tN b n (tN b n (tN b n q)))))) G (tW b n (tN b n (tN b n (tN b n (tN b n q))))) (tN b n (tN b n (tN b n (tN b n q)))))
      have fr : F_X12_trunks 59 (rfT hM K G (tW b n q) q) = some (nI (nT (K 60))) := by rw [m_trunks (show Sh (rfT hM K G (tW b n q) q) from sM), m_a _ (by decide), eTn]
      have yA := ixT (nT (K 60))
      have yB : nI (53 + 3 * nT (K 60)) + (1 : Int32) = nI (54 + 3 * nT (K 60)) := by rw [← ixT]; exact ixT1 _
      have yC : nI (53 + 3 * nT (K 60)) + (2 : Int32) = nI (55 + 3 * nT (K 60)) := by rw [← ixT]; exact ixT2 _
      have yD := ix_t (show 53 + 3 * nT (K 60) < 5049 by omega) (by omega)
      have yE := ncl (show 53 + 3 * nT (K 60) < 2147483648 by omega)
      have f2 := m_num1' (g := q) sM tm1 p0 x0 e2
      have g2 : F_X12_sets 59 (nI (53 + 3 * nT (K 60))) (nI (tVl b n (tN b n q))) (rfT hM K G (tD b n (tN b n q)) (tN b n q)) = _ := m_sets1 sM (x := 53 + 3 * nT (K 60)) (by omega) (by omega)
      have f3 := m_need1' (g := (tN b n q)) sM tm2 p2 x2 wrd_46 e3
      have zt : zI (rfT hM (up2 K 60 (53 + 3 * nT (K 60)) (nI (tVl b n (tN b n q)))) G (tW b n (tN b n (tN b n q))) (tN b n (tN b n q))) 60 (53 + 3 * nT (K 60)) = (nI (tVl b n (tN b n q))) := by rw [m_a _ (by decide)]; simp (disch := omega) only [up2_e, up2_k]
      have f4 := m_num1' (g := (tN b n (tN b n q))) sM tm3 p3 x3 e4
      have g4 : F_X12_sets 59 (nI (54 + 3 * nT (K 60))) (nI (tVl b n (tN b n (tN b n (tN b n q))))) (rfT hM (up2 K 60 (53 + 3 * nT (K 60)) (nI (tVl b n (tN b n q)))) G (tD b n (tN b n (tN b n (tN b n q)))) (tN b n (tN b n (tN b n q)))) = _ := m_sets1 sM (x := 54 + 3 * nT (K 60)) (by omega) (by omega)
      have f5 := m_need0' (g := (tN b n (tN b n (tN b n q)))) sM tm4 p4 x4 wrd_44 e5
      unfold F_X12_readHouseLine F_X12_readHouseLine_b0
      rw [m_isW0 sM tm hq wrd_42 n1, ob_s, m_k, gd_d (k59 sM), if_pos rfl, m_isW0 sM tm hq wrd_43 n2, ob_s, if_pos rfl, m_isW1 sM tm hq wrd_45 e, ob_s, if_neg (by decide)]
      simp only [F_X12_readTrunk, F_X12_readTrunk_b0, F_X12_readTrunk_b92, fr, m8, yA, yB, yC, yD, yE, m_R, m_l, r59_1 sM, k60 sM, l60 sM, f2, g2, f3, zt, f4, g4, f5, ob2_s, m_k, k59 sM, one0, neg1, gd_t, ob_s, ob2_s, ob4_s, sm_l, sm_r, ac_s, decide_true, decide_false, eq_self, ne_eq, not_false_eq_true, not_true_eq_false, if_true, if_false, ite_true, ite_false, reduceIte, or_true, true_or, or_false, false_or, and_true, true_and, Bool.false_eq_true, reduceCtorEq]
    · exact fun x y1 y2 => by simp only [up2_a _ _ _ _ _ y1, up2_a _ _ _ _ _ y2]
    · exact fun x y => by simp only [up2_a _ _ _ _ _ y]
  have k5 := x_takeW1 (t := (nI (tVl b n (tN b n (tN b n (tN b n q)))))) (w := -1) s tc4 h4 wrd_4 e5
  have tc5 := tc4
  have tm5 := tm4
  have p5 : tW b n (tN b n (tN b n (tN b n (tN b n q)))) ≤ n := tTo_le isLe b h4
  have x5 := tN_w (tIs_lt (by decide) e5)
  have j06 : (up2 (up2 (up2 (up2 J 37 (4 * i) 2) 36 4 (nI (nT (K 60) + 1))) 37 (4 * i + 1) (nI (tVl b n (tN b n q)))) 37 (4 * i + 2) (nI (tVl b n (tN b n (tN b n (tN b n q)))))) 36 0 = nI i := by simp (disch := decide) only [up2_a, up2_k, e0]
  have z6 : zI (cT h b n (up2 (up2 (up2 (up2 J 37 (4 * i) 2) 36 4 (nI (nT (K 60) + 1))) 37 (4 * i + 1) (nI (tVl b n (tN b n q)))) 37 (4 * i + 2) (nI (tVl b n (tN b n (tN b n (tN b n q)))))) F (tN b n (tN b n (tN b n (tN b n (tN b n q))))) (nI (tVl b n (tN b n (tN b n (tN b n q))))) (-1)) 36 2 = nI (nR (K 60)) := by rw [cT_a _ (by decide)]; simp (disch := decide) only [up2_a, up2_k, d2]
  have er6 : (up2 (up2 K 60 (53 + 3 * nT (K 60)) (nI (tVl b n (tN b n q)))) 60 (54 + 3 * nT (K 60)) (nI (tVl b n (tN b n (tN b n (tN b n q)))))) 60 0 = nI (nR (K 60)) := by simp (disch := omega) only [up2_k, eR]
  by_cases e6 : tOk b n (tN b n (tN b n (tN b n (tN b n (tN b n q))))) 0 (nI (nR (K 60)) - 1)
  rotate_left
  · have k6 : F_X3_keep 36 3 0 (nI (nR (K 60)) - 1) 1 (cT h b n (up2 (up2 (up2 (up2 J 37 (4 * i) 2) 36 4 (nI (nT (K 60) + 1))) 37 (4 * i + 1) (nI (tVl b n (tN b n q)))) 37 (4 * i + 2) (nI (tVl b n (tN b n (tN b n (tN b n q)))))) F (tN b n (tN b n (tN b n (tN b n (tN b n q))))) (nI (tVl b n (tN b n (tN b n (tN b n q))))) (-1)) = _ := x_keep0 s tc5 h5 e6 _
    refine HO_no rel0 (J' := (up2 (up2 (up2 (up2 J 37 (4 * i) 2) 36 4 (nI (nT (K 60) + 1))) 37 (4 * i + 1) (nI (tVl b n (tN b n q)))) 37 (4 * i + 2) (nI (tVl b n (tN b n (tN b n (tN b n q))))))) (q' := (tN b n (tN b n (tN b n (tN b n (tN b n q)))))) (t' := (nI (tVl b n (tN b n (tN b n (tN b n q)))))) (f := (tN b n (tN b n (tN b n (tN b n (tN b n q)))))) (p' := tD b n (tN b n (tN b n (tN b n (tN b n (tN b n q)))))) ?_ (up2 (up2 (up2 K 60 (53 + 3 * nT (K 60)) (nI (tVl b n (tN b n q)))) 60 (54 + 3 * nT (K 60)) (nI (tVl b n (tN b n (tN b n (tN b n q)))))) 60 (55 + 3 * nT (K 60)) (-1)) (fun hM sM => ?_) ?_ ?_
    · show F_X3_readLine 36 1 3 (cT h b n J F q t (-1)) = some (0, cT h b n (up2 (up2 (up2 (up2 J 37 (4 * i) 2) 36 4 (nI (nT (K 60) + 1))) 37 (4 * i + 1) (nI (tVl b n (tN b n q)))) 37 (4 * i + 2) (nI (tVl b n (tN b n (tN b n (tN b n q)))))) F (tN b n (tN b n (tN b n (tN b n (tN b n q))))) (nI (tVl b n (tN b n (tN b n (tN b n q))))) (nI (tN b n (tN b n (tN b n (tN b n (tN b n q)))))))
      unfold F_X3_readLine F_X3_readLine_b0
      rw [x_isW0 s tc hq wrd_2 n1, ob_s, cT_k, gd_d (k1 s), if_pos rfl, x_isW0 s tc hq wrd_3 n2, ob_s, if_pos rfl, x_isW1 s tc hq wrd_5 e, ob_s, if_neg (by decide)]
      simp only [F_X3_readTrunk, F_X3_readTrunk_b0, F_X3_readTrunk_b97, F_X3_readTrunk_b98, z36, c8, bg, es, k2, k3, z4, k4, k5, z6, k6, ob2_s, cT_k, a1, k1 s, one0, gd_t, ob_s, ob2_s, ob4_s, sm_l, sm_r, ac_s, decide_true, decide_false, eq_self, ne_eq, not_false_eq_true, not_true_eq_false, if_true, if_false, ite_true, ite_false, reduceIte, or_true, true_or, or_false, false_or, and_true, true_and, Bool.false_eq_true, reduceCtorEq]
    · show F_X12_readHouseLine 59 (rfT hM K G (tW b n q) q) = some (0, rfT hM (up2 (up2 (up2 K 60 (53 + 3 * nT (K 60)) (nI (tVl b n (tN b n q)))) 60 (54 + 3 * nT (K 60)) (nI (tVl b n (tN b n (tN b n (tN b n q)))))) 60 (55 + 3 * nT (K 60)) (-1)) G (tD b n (tN b n (tN b n (tN b n (tN b n (tN b n q)))))) (tN b n (tN b n (tN b n (tN b n (tN b n q))))))
      have fr : F_X12_trunks 59 (rfT hM K G (tW b n q) q) = some (nI (nT (K 60))) := by rw [m_trunks (show Sh (rfT hM K G (tW b n q) q) from sM), m_a _ (by decide), eTn]
      have yA := ixT (nT (K 60))
      have yB : nI (53 + 3 * nT (K 60)) + (1 : Int32) = nI (54 + 3 * nT (K 60)) := by rw [← ixT]; exact ixT1 _
      have yC : nI (53 + 3 * nT (K 60)) + (2 : Int32) = nI (55 + 3 * nT (K 60)) := by rw [← ixT]; exact ixT2 _
      have yD := ix_t (show 53 + 3 * nT (K 60) < 5049 by omega) (by omega)
      have yE := ncl (show 53 + 3 * nT (K 60) < 2147483648 by omega)
      have f2 := m_num1' (g := q) sM tm1 p0 x0 e2
      have g2 : F_X12_sets 59 (nI (53 + 3 * nT (K 60))) (nI (tVl b n (tN b n q))) (rfT hM K G (tD b n (tN b n q)) (tN b n q)) = _ := m_sets1 sM (x := 53 + 3 * nT (K 60)) (by omega) (by omega)
      have f3 := m_need1' (g := (tN b n q)) sM tm2 p2 x2 wrd_46 e3
      have zt : zI (rfT hM (up2 K 60 (53 + 3 * nT (K 60)) (nI (tVl b n (tN b n q)))) G (tW b n (tN b n (tN b n q))) (tN b n (tN b n q))) 60 (53 + 3 * nT (K 60)) = (nI (tVl b n (tN b n q))) := by rw [m_a _ (by decide)]; simp (disch := omega) only [up2_e, up2_k]
      have f4 := m_num1' (g := (tN b n (tN b n q))) sM tm3 p3 x3 e4
      have g4 : F_X12_sets 59 (nI (54 + 3 * nT (K 60))) (nI (tVl b n (tN b n (tN b n (tN b n q))))) (rfT hM (up2 K 60 (53 + 3 * nT (K 60)) (nI (tVl b n (tN b n q)))) G (tD b n (tN b n (tN b n (tN b n q)))) (tN b n (tN b n (tN b n q)))) = _ := m_sets1 sM (x := 54 + 3 * nT (K 60)) (by omega) (by omega)
      have f5 := m_need1' (g := (tN b n (tN b n (tN b n q)))) sM tm4 p4 x4 wrd_44 e5
      have f6 := m_told0 (g := (tN b n (tN b n (tN b n (tN b n q))))) sM tm5 p5 x5 er6 e6
      have g6 : F_X12_sets 59 (nI (55 + 3 * nT (K 60))) (-1) (rfT hM (up2 (up2 K 60 (53 + 3 * nT (K 60)) (nI (tVl b n (tN b n q)))) 60 (54 + 3 * nT (K 60)) (nI (tVl b n (tN b n (tN b n (tN b n q)))))) G (tD b n (tN b n (tN b n (tN b n (tN b n (tN b n q)))))) (tN b n (tN b n (tN b n (tN b n (tN b n q)))))) = _ := m_sets0 sM (x := 55 + 3 * nT (K 60)) (by omega)
      unfold F_X12_readHouseLine F_X12_readHouseLine_b0
      rw [m_isW0 sM tm hq wrd_42 n1, ob_s, m_k, gd_d (k59 sM), if_pos rfl, m_isW0 sM tm hq wrd_43 n2, ob_s, if_pos rfl, m_isW1 sM tm hq wrd_45 e, ob_s, if_neg (by decide)]
      simp only [F_X12_readTrunk, F_X12_readTrunk_b0, F_X12_readTrunk_b92, fr, m8, yA, yB, yC, yD, yE, m_R, m_l, r59_1 sM, k60 sM, l60 sM, f2, g2, f3, zt, f4, g4, f5, f6, g6, ob2_s, m_k, k59 sM, one0, neg1, gd_t, ob_s, ob2_s, ob4_s, sm_l, sm_r, ac_s, decide_true, decide_false, eq_self, ne_eq, not_false_eq_true, not_true_eq_false, if_true, if_false, ite_true, ite_false, reduceIte, or_true, true_or, or_false, false_or, and_true, true_and, Bool.false_eq_true, reduceCtorEq]
    · exact fun x y1 y2 => by simp only [up2_a _ _ _ _ _ y1, up2_a _ _ _ _ _ y2]
    · exact fun x y => by simp only [up2_a _ _ _ _ _ y]
  have k6 : F_X3_keep 36 3 0 (nI (nR (K 60)) - 1) 1 (cT h b n (up2 (up2 (up2 (up2 J 37 (4 * i) 2) 36 4 (nI (nT (K 60) + 1))) 37 (4 * i + 1) (nI (tVl b n (tN b n q)))) 37 (4 * i + 2) (nI (tVl b n (tN b n (tN b n (tN b n q)))))) F (tN b n (tN b n (tN b n (tN b n (tN b n q))))) (nI (tVl b n (tN b n (tN b n (tN b n q))))) (-1)) = _ := x_keep1 s tc5 h5 j06 hi (x := 3) (by omega) e6
  have v6 := tVl_lt h5 e6.2.1
  have u6 := tOk_lt h5 (by omega) e6
  have tc6 : TC b n (up2 (up2 (up2 (up2 (up2 J 37 (4 * i) 2) 36 4 (nI (nT (K 60) + 1))) 37 (4 * i + 1) (nI (tVl b n (tN b n q)))) 37 (4 * i + 2) (nI (tVl b n (tN b n (tN b n (tN b n q)))))) 37 (4 * i + 3) (nI (tVl b n (tN b n (tN b n (tN b n (tN b n (tN b n q)))))))) F := TC_up tc5 (by decide)
  have tm6 : TM b n (up2 (up2 (up2 K 60 (53 + 3 * nT (K 60)) (nI (tVl b n (tN b n q)))) 60 (54 + 3 * nT (K 60)) (nI (tVl b n (tN b n (tN b n (tN b n q)))))) 60 (55 + 3 * nT (K 60)) (nI (tVl b n (tN b n (tN b n (tN b n (tN b n (tN b n q)))))))) G := TM_up tm5 (by decide)
  have p6 : tD b n (tN b n (tN b n (tN b n (tN b n (tN b n q))))) ≤ n := tTo_le isDi b h5
  have x6 := tN_d h5 e6.1
  refine HO_ok rel0 (J' := (up2 (up2 (up2 (up2 (up2 J 37 (4 * i) 2) 36 4 (nI (nT (K 60) + 1))) 37 (4 * i + 1) (nI (tVl b n (tN b n q)))) 37 (4 * i + 2) (nI (tVl b n (tN b n (tN b n (tN b n q)))))) 37 (4 * i + 3) (nI (tVl b n (tN b n (tN b n (tN b n (tN b n (tN b n q))))))))) (q' := (tN b n (tN b n (tN b n (tN b n (tN b n (tN b n q))))))) (t' := (nI (tVl b n (tN b n (tN b n (tN b n (tN b n (tN b n q)))))))) (p' := (tD b n (tN b n (tN b n (tN b n (tN b n (tN b n q))))))) (g' := (tN b n (tN b n (tN b n (tN b n (tN b n q)))))) (k := 2) (a := (tVl b n (tN b n q))) (c := (tVl b n (tN b n (tN b n (tN b n q))))) (d := (tVl b n (tN b n (tN b n (tN b n (tN b n (tN b n q))))))) ?_ (up2 (up2 (up2 (up2 K 60 (53 + 3 * nT (K 60)) (nI (tVl b n (tN b n q)))) 60 (54 + 3 * nT (K 60)) (nI (tVl b n (tN b n (tN b n (tN b n q)))))) 60 (55 + 3 * nT (K 60)) (nI (tVl b n (tN b n (tN b n (tN b n (tN b n (tN b n q)))))))) 60 2 (nI (nT (K 60) + 1))) (fun hM sM => ?_) p6 x6 ?_ ?_ ?_ ?_ ?_ ?_ ?_ ?_ (show nT (K 60) < 6 ∧ _ ≤ _ ∧ _ ≤ 300 ∧ _ < nR (K 60) from ⟨full, tOk_ge h3 (by omega) e4, tOk_le (m := 300) h3 e4, tOk_lt h5 (by omega) e6⟩) ?_ ?_ ?_ ?_
  · show F_X3_readLine 36 1 3 (cT h b n J F q t (-1)) = some (1, cT h b n (up2 (up2 (up2 (up2 (up2 J 37 (4 * i) 2) 36 4 (nI (nT (K 60) + 1))) 37 (4 * i + 1) (nI (tVl b n (tN b n q)))) 37 (4 * i + 2) (nI (tVl b n (tN b n (tN b n (tN b n q)))))) 37 (4 * i + 3) (nI (tVl b n (tN b n (tN b n (tN b n (tN b n (tN b n q)))))))) F (tN b n (tN b n (tN b n (tN b n (tN b n (tN b n q)))))) (nI (tVl b n (tN b n (tN b n (tN b n (tN b n (tN b n q))))))) (-1))
    unfold F_X3_readLine F_X3_readLine_b0
    rw [x_isW0 s tc hq wrd_2 n1, ob_s, cT_k, gd_d (k1 s), if_pos rfl, x_isW0 s tc hq wrd_3 n2, ob_s, if_pos rfl, x_isW1 s tc hq wrd_5 e, ob_s, if_neg (by decide)]
    simp only [F_X3_readTrunk, F_X3_readTrunk_b0, F_X3_readTrunk_b97, F_X3_readTrunk_b98, z36, c8, bg, es, k2, k3, z4, k4, k5, z6, k6, ob2_s, cT_k, a1, k1 s, one0, gd_t, ob_s, ob2_s, ob4_s, sm_l, sm_r, ac_s, decide_true, decide_false, eq_self, ne_eq, not_false_eq_true, not_true_eq_false, if_true, if_false, ite_true, ite_false, reduceIte, or_true, true_or, or_false, false_or, and_true, true_and, Bool.false_eq_true, reduceCtorEq]
  · show F_X12_readHouseLine 59 (rfT hM K G (tW b n q) q) = some (1, rfT hM (up2 (up2 (up2 (up2 K 60 (53 + 3 * nT (K 60)) (nI (tVl b n (tN b n q)))) 60 (54 + 3 * nT (K 60)) (nI (tVl b n (tN b n (tN b n (tN b n q)))))) 60 (55 + 3 * nT (K 60)) (nI (tVl b n (tN b n (tN b n (tN b n (tN b n (tN b n q)))))))) 60 2 (nI (nT (K 60) + 1))) G (tD b n (tN b n (tN b n (tN b n (tN b n (tN b n q)))))) (tN b n (tN b n (tN b n (tN b n (tN b n q))))))
    have fr : F_X12_trunks 59 (rfT hM K G (tW b n q) q) = some (nI (nT (K 60))) := by rw [m_trunks (show Sh (rfT hM K G (tW b n q) q) from sM), m_a _ (by decide), eTn]
    have yA := ixT (nT (K 60))
    have yB : nI (53 + 3 * nT (K 60)) + (1 : Int32) = nI (54 + 3 * nT (K 60)) := by rw [← ixT]; exact ixT1 _
    have yC : nI (53 + 3 * nT (K 60)) + (2 : Int32) = nI (55 + 3 * nT (K 60)) := by rw [← ixT]; exact ixT2 _
    have yD := ix_t (show 53 + 3 * nT (K 60) < 5049 by omega) (by omega)
    have yE := ncl (show 53 + 3 * nT (K 60) < 2147483648 by omega)
    have f2 := m_num1' (g := q) sM tm1 p0 x0 e2
    have g2 : F_X12_sets 59 (nI (53 + 3 * nT (K 60))) (nI (tVl b n (tN b n q))) (rfT hM K G (tD b n (tN b n q)) (tN b n q)) = _ := m_sets1 sM (x := 53 + 3 * nT (K 60)) (by omega) (by omega)
    have f3 := m_need1' (g := (tN b n q)) sM tm2 p2 x2 wrd_46 e3
    have zt : zI (rfT hM (up2 K 60 (53 + 3 * nT (K 60)) (nI (tVl b n (tN b n q)))) G (tW b n (tN b n (tN b n q))) (tN b n (tN b n q))) 60 (53 + 3 * nT (K 60)) = (nI (tVl b n (tN b n q))) := by rw [m_a _ (by decide)]; simp (disch := omega) only [up2_e, up2_k]
    have f4 := m_num1' (g := (tN b n (tN b n q))) sM tm3 p3 x3 e4
    have g4 : F_X12_sets 59 (nI (54 + 3 * nT (K 60))) (nI (tVl b n (tN b n (tN b n (tN b n q))))) (rfT hM (up2 K 60 (53 + 3 * nT (K 60)) (nI (tVl b n (tN b n q)))) G (tD b n (tN b n (tN b n (tN b n q)))) (tN b n (tN b n (tN b n q)))) = _ := m_sets1 sM (x := 54 + 3 * nT (K 60)) (by omega) (by omega)
    have f5 := m_need1' (g := (tN b n (tN b n (tN b n q)))) sM tm4 p4 x4 wrd_44 e5
    have f6 := m_told1 (g := (tN b n (tN b n (tN b n (tN b n q))))) sM tm5 p5 x5 er6 e6
    have g6 : F_X12_sets 59 (nI (55 + 3 * nT (K 60))) (nI (tVl b n (tN b n (tN b n (tN b n (tN b n (tN b n q))))))) (rfT hM (up2 (up2 K 60 (53 + 3 * nT (K 60)) (nI (tVl b n (tN b n q)))) 60 (54 + 3 * nT (K 60)) (nI (tVl b n (tN b n (tN b n (tN b n q)))))) G (tD b n (tN b n (tN b n (tN b n (tN b n (tN b n q)))))) (tN b n (tN b n (tN b n (tN b n (tN b n q)))))) = _ := m_sets1 sM (x := 55 + 3 * nT (K 60)) (by omega) (by omega)
    have y4 : zI (rfT hM (up2 (up2 (up2 K 60 (53 + 3 * nT (K 60)) (nI (tVl b n (tN b n q)))) 60 (54 + 3 * nT (K 60)) (nI (tVl b n (tN b n (tN b n (tN b n q)))))) 60 (55 + 3 * nT (K 60)) (nI (tVl b n (tN b n (tN b n (tN b n (tN b n (tN b n q)))))))) G (tD b n (tN b n (tN b n (tN b n (tN b n (tN b n q)))))) (tN b n (tN b n (tN b n (tN b n (tN b n q)))))) 60 2 = nI (nT (K 60)) := by rw [m_a _ (by decide)]; simp (disch := omega) only [up2_k, eTn]
    unfold F_X12_readHouseLine F_X12_readHouseLine_b0
    rw [m_isW0 sM tm hq wrd_42 n1, ob_s, m_k, gd_d (k59 sM), if_pos rfl, m_isW0 sM tm hq wrd_43 n2, ob_s, if_pos rfl, m_isW1 sM tm hq wrd_45 e, ob_s, if_neg (by decide)]
    simp only [F_X12_readTrunk, F_X12_readTrunk_b0, F_X12_readTrunk_b92, fr, m8, yA, yB, yC, yD, yE, m_R, m_l, r59_1 sM, k60 sM, l60 sM, f2, g2, f3, zt, f4, g4, f5, f6, g6, y4, m_seta _ _ (show 60 ≠ 59 by decide), show ix (2 : Int32) 5049 = true from by decide, show ((2 : Int32)).toNatClampNeg = 2 from rfl, nS_1, ob2_s, m_k, k59 sM, one0, neg1, gd_t, ob_s, ob2_s, ob4_s, sm_l, sm_r, ac_s, decide_true, decide_false, eq_self, ne_eq, not_false_eq_true, not_true_eq_false, if_true, if_false, ite_true, ite_false, reduceIte, or_true, true_or, or_false, false_or, and_true, true_and, Bool.false_eq_true, reduceCtorEq]
  · exact fun x y1 y2 => by simp only [up2_a _ _ _ _ _ y1, up2_a _ _ _ _ _ y2]
  · simp (disch := decide) only [up2_a, up2_k]
  · exact fun x y => by simp (disch := omega) only [up2_a, up2_k]
  · exact fun x y => by simp only [up2_a _ _ _ _ _ y]
  · exact nN_e (by simp (disch := omega) only [up2_e, up2_k, up2_a] <;> rfl) (by omega)
  · exact nN_e (by simp (disch := omega) only [up2_e, up2_k, up2_a]) (by omega)
  · exact nN_e (by simp (disch := omega) only [up2_e, up2_k, up2_a]) (by omega)
  · exact nN_e (by simp (disch := omega) only [up2_e, up2_k, up2_a]) (by omega)
  · simp only [up2_r]
    rfl
  · simp (disch := decide) only [up2_a, up2_k, up2_e, d2] <;> rfl
  · simp (disch := decide) only [up2_a, up2_k, up2_e, d3] <;> rfl
  · simp (disch := decide) only [up2_a, up2_k, up2_e, d4] <;> rfl
end HL5
