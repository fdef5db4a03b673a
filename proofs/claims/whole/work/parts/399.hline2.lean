/-! THE HOUSE'S LINES: slide -/
section HLINE2
variable {h : Hp} {b : Nat → Int32} {n : Nat} {F : Nat → Int32} {J K : Nat → Nat → Int32} {G : Nat → Int32} {q i : Nat} {t : Int32}
theorem r_bound0 (s : Sh h) (tm : TM b n K G) (hq : q ≤ n) (no : no5 b n q) (e : tIs b n q w_bound) (e2 : ¬ tOk b n (tN b n q) 0 99999) : F_X12_readHouseLine 59 (rfT h K G (tW b n q) q) = some (0, rfT h (up2 K 60 8 (-1)) G (tD b n (tN b n q)) (tN b n q)) := by
  obtain ⟨n1, n2, n3, n4, n5⟩ := no
  have h1 := tN_le (b := b) hq
  have w0 : tW b n q ≤ n := tTo_le isLe b hq
  have st : F_X12_sets 59 8 (-1) (rfT h K G (tD b n (tN b n q)) (tN b n q)) = _ := m_sets0 s (x := 8) (by omega)
  unfold F_X12_readHouseLine F_X12_readHouseLine_b0
  rw [m_isW0 s tm hq wrd_42 n1, ob_s, m_k, gd_d (k59 s), if_pos rfl, m_isW0 s tm hq wrd_43 n2, ob_s, if_pos rfl, m_isW0 s tm hq wrd_45 n3, ob_s, if_pos rfl, m_isW0 s tm hq wrd_47 n4, ob_s, if_pos rfl, m_isW0 s tm hq wrd_48 n5, ob_s, if_pos rfl, m_isW1 s tm hq wrd_49 e, ob_s, if_neg (by decide), m_num0' s tm w0 (tN_w (tIs_lt (by decide) e)) e2, ob2_s, st, ob2_s, m_k, gd_d (k59 s), gd_d (Or.inl rfl)]
theorem c_slide1 (s : Sh h) (tc : TC b n J F) (hq : q ≤ n) (e0 : J 36 0 = nI i) (hi : i < 14) (no : no5 b n q) (n6 : ¬ tIs b n q w_bound) (e : tIs b n q w_slide) (e2 : tOk b n (tN b n q) 0 99999) : F_X3_readLine 36 1 3 (cT h b n J F q t (-1)) = some (1, cT h b n (up2 (up2 J 37 (4 * i) 6) 37 (4 * i + 1) (nI (tVl b n (tN b n q)))) F (tN b n (tN b n q)) (nI (tVl b n (tN b n q))) (-1)) := by
  obtain ⟨a1, a2, a3, a4⟩ := k36 s
  obtain ⟨n1, n2, n3, n4, n5⟩ := no
  have h1 := tN_le (b := b) hq
  have t1 : TC b n (up2 J 37 (4 * i) 6) F := TC_up tc (by decide)
  have e01 : up2 J 37 (4 * i) 6 36 0 = nI i := by rw [up2_a _ _ _ _ _ (by decide)]; exact e0
  have kp : F_X3_keep 36 1 0 99999 1 (cT h b n (up2 J 37 (4 * i) 6) F (tN b n q) t (-1)) = _ := x_keep1 s t1 h1 e01 hi (x := 1) (by omega) e2
  unfold F_X3_readLine F_X3_readLine_b0
  rw [x_isW0 s tc hq wrd_2 n1, ob_s, cT_k, gd_d (k1 s), if_pos rfl, x_isW0 s tc hq wrd_3 n2, ob_s, if_pos rfl, x_isW0 s tc hq wrd_5 n3, ob_s, if_pos rfl, x_isW0 s tc hq wrd_7 n4, ob_s, if_pos rfl, x_isW0 s tc hq wrd_8 n5, ob_s, if_pos rfl, x_isW0 s tc hq wrd_9 n6, ob_s, if_pos rfl, x_isW1 s tc hq wrd_10 e, ob_s, if_neg (by decide), x_begin s tc hq e0 hi, ob2_s, cT_k, gd_d a1, kp, ob2_s, cT_k, gd_d a1, gd_d (Or.inr rfl)]
theorem c_slide0 (s : Sh h) (tc : TC b n J F) (hq : q ≤ n) (e0 : J 36 0 = nI i) (hi : i < 14) (no : no5 b n q) (n6 : ¬ tIs b n q w_bound) (e : tIs b n q w_slide) (e2 : ¬ tOk b n (tN b n q) 0 99999) : F_X3_readLine 36 1 3 (cT h b n J F q t (-1)) = some (0, cT h b n (up2 J 37 (4 * i) 6) F (tN b n q) t (nI (tN b n q))) := by
  obtain ⟨a1, a2, a3, a4⟩ := k36 s
  obtain ⟨n1, n2, n3, n4, n5⟩ := no
  have h1 := tN_le (b := b) hq
  have t1 : TC b n (up2 J 37 (4 * i) 6) F := TC_up tc (by decide)
  unfold F_X3_readLine F_X3_readLine_b0
  rw [x_isW0 s tc hq wrd_2 n1, ob_s, cT_k, gd_d (k1 s), if_pos rfl, x_isW0 s tc hq wrd_3 n2, ob_s, if_pos rfl, x_isW0 s tc hq wrd_5 n3, ob_s, if_pos rfl, x_isW0 s tc hq wrd_7 n4, ob_s, if_pos rfl, x_isW0 s tc hq wrd_8 n5, ob_s, if_pos rfl, x_isW0 s tc hq wrd_9 n6, ob_s, if_pos rfl, x_isW1 s tc hq wrd_10 e, ob_s, if_neg (by decide), x_begin s tc hq e0 hi, ob2_s, cT_k, gd_d a1, x_keep0 s t1 h1 e2, ob2_s, cT_k, gd_d a1, gd_d (Or.inl rfl)]
theorem r_slide1 (s : Sh h) (tm : TM b n K G) (hq : q ≤ n) (no : no5 b n q) (n6 : ¬ tIs b n q w_bound) (e : tIs b n q w_slide) (e2 : tOk b n (tN b n q) 0 99999) : F_X12_readHouseLine 59 (rfT h K G (tW b n q) q) = some (1, rfT h (up2 K 60 9 (nI (tVl b n (tN b n q)))) G (tD b n (tN b n q)) (tN b n q)) := by
  obtain ⟨n1, n2, n3, n4, n5⟩ := no
  have h1 := tN_le (b := b) hq
  have w0 : tW b n q ≤ n := tTo_le isLe b hq
  have v0 := tVl_lt h1 e2.2.1
  have st : F_X12_sets 59 9 (nI (tVl b n (tN b n q))) (rfT h K G (tD b n (tN b n q)) (tN b n q)) = _ := m_sets1 s (x := 9) (by omega) (by omega)
  unfold F_X12_readHouseLine F_X12_readHouseLine_b0
  rw [m_isW0 s tm hq wrd_42 n1, ob_s, m_k, gd_d (k59 s), if_pos rfl, m_isW0 s tm hq wrd_43 n2, ob_s, if_pos rfl, m_isW0 s tm hq wrd_45 n3, ob_s, if_pos rfl, m_isW0 s tm hq wrd_47 n4, ob_s, if_pos rfl, m_isW0 s tm hq wrd_48 n5, ob_s, if_pos rfl, m_isW0 s tm hq wrd_49 n6, ob_s, if_pos rfl, m_isW1 s tm hq wrd_50 e, ob_s, if_neg (by decide), m_num1' s tm w0 (tN_w (tIs_lt (by decide) e)) e2, ob2_s, st, ob2_s, m_k, gd_d (k59 s), gd_d (Or.inr rfl)]
theorem r_slide0 (s : Sh h) (tm : TM b n K G) (hq : q ≤ n) (no : no5 b n q) (n6 : ¬ tIs b n q w_bound) (e : tIs b n q w_slide) (e2 : ¬ tOk b n (tN b n q) 0 99999) : F_X12_readHouseLine 59 (rfT h K G (tW b n q) q) = some (0, rfT h (up2 K 60 9 (-1)) G (tD b n (tN b n q)) (tN b n q)) := by
  obtain ⟨n1, n2, n3, n4, n5⟩ := no
  have h1 := tN_le (b := b) hq
  have w0 : tW b n q ≤ n := tTo_le isLe b hq
  have st : F_X12_sets 59 9 (-1) (rfT h K G (tD b n (tN b n q)) (tN b n q)) = _ := m_sets0 s (x := 9) (by omega)
  unfold F_X12_readHouseLine F_X12_readHouseLine_b0
  rw [m_isW0 s tm hq wrd_42 n1, ob_s, m_k, gd_d (k59 s), if_pos rfl, m_isW0 s tm hq wrd_43 n2, ob_s, if_pos rfl, m_isW0 s tm hq wrd_45 n3, ob_s, if_pos rfl, m_isW0 s tm hq wrd_47 n4, ob_s, if_pos rfl, m_isW0 s tm hq wrd_48 n5, ob_s, if_pos rfl, m_isW0 s tm hq wrd_49 n6, ob_s, if_pos rfl, m_isW1 s tm hq wrd_50 e, ob_s, if_neg (by decide), m_num0' s tm w0 (tN_w (tIs_lt (by decide) e)) e2, ob2_s, st, ob2_s, m_k, gd_d (k59 s), gd_d (Or.inl rfl)]
end HLINE2
