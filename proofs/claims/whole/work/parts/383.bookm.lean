/-! TEXTS: a line of the book, both sides, all ways -/
section BOOKM
variable {h : Hp} {b : Nat → Int32} {n : Nat} {F : Nat → Int32} {J K : Nat → Nat → Int32} {G : Nat → Int32} {i q : Nat} {t lo : Int32} {m r : Nat}
theorem nS_1 (a : Nat) : nI a + 1 = nI (a + 1) := nadd a 1
theorem nS_2 (a : Nat) : nI a + 2 = nI (a + 2) := nadd a 2
theorem m_num1' (s : Sh h) (c : TM b n K G) {p g q : Nat} (hp : p ≤ n) (eq : tS b n p = q) {lo hi : Int32} (e : tOk b n q lo hi) : F_X12_number 59 lo hi (rfT h K G p g) = some (nI (tVl b n q), rfT h K G (tD b n q) q) := by
  subst eq
  exact m_num1 s c hp e
theorem m_num0' (s : Sh h) (c : TM b n K G) {p g q : Nat} (hp : p ≤ n) (eq : tS b n p = q) {lo hi : Int32} (e : ¬ tOk b n q lo hi) : F_X12_number 59 lo hi (rfT h K G p g) = some (-1, rfT h K G (tD b n q) q) := by
  subst eq
  exact m_num0 s c hp e
theorem m_need1' (s : Sh h) (c : TM b n K G) {p g q : Nat} (hp : p ≤ n) (eq : tS b n p = q) {v : UInt32} {l : List Int32} (d : Wd v l) (e : tIs b n q l) : F_X12_needs 59 v (rfT h K G p g) = some (1, rfT h K G (tW b n q) q) := by
  subst eq
  exact m_need1 s c hp d e
theorem m_need0' (s : Sh h) (c : TM b n K G) {p g q : Nat} (hp : p ≤ n) (eq : tS b n p = q) {v : UInt32} {l : List Int32} (d : Wd v l) (e : ¬ tIs b n q l) : F_X12_needs 59 v (rfT h K G p g) = some (0, rfT h K G (tW b n q) q) := by
  subst eq
  exact m_need0 s c hp d e
theorem m_told1 (s : Sh h) (c : TM b n K G) {p g q : Nat} (hp : p ≤ n) (eq : tS b n p = q) {r : Nat} (er : K 60 0 = nI r) (e : tOk b n q 0 (nI r - 1)) : F_X12_roomTold 59 (rfT h K G p g) = some (nI (tVl b n q), rfT h K G (tD b n q) q) := by
  have sT : Sh (rfT h K G p g) := s
  unfold F_X12_roomTold F_X12_roomTold_b0
  rw [m_rooms sT, ob_s, m_k, gd_d (k59 s), m_a _ (by decide), er, m_num1' s c hp eq e, ob2_s]
theorem m_told0 (s : Sh h) (c : TM b n K G) {p g q : Nat} (hp : p ≤ n) (eq : tS b n p = q) {r : Nat} (er : K 60 0 = nI r) (e : ¬ tOk b n q 0 (nI r - 1)) : F_X12_roomTold 59 (rfT h K G p g) = some (-1, rfT h K G (tD b n q) q) := by
  have sT : Sh (rfT h K G p g) := s
  unfold F_X12_roomTold F_X12_roomTold_b0
  rw [m_rooms sT, ob_s, m_k, gd_d (k59 s), m_a _ (by decide), er, m_num0' s c hp eq e, ob2_s]
theorem c_f0 (s : Sh h) (tc : TC b n J F) (hq : q ≤ n) (e1 : ¬ tIs b n q [97, 116]) : F_X0_readLine_b36 41 1 3 (nI i) lo (cT h b n J F q t (-1)) = some (0, cT h b n J F q t (nI q)) := by
  unfold F_X0_readLine_b36
  rw [x_takeW0 s tc hq wd_at e1, ob2_s, cT_k, gd_d (k1 s), if_pos rfl]
  rfl
theorem c_f1 (s : Sh h) (tc : TC b n J F) (hq : q ≤ n) (e1 : tIs b n q [97, 116]) (e2 : ¬ tOk b n (tN b n q) lo 999) : F_X0_readLine_b36 41 1 3 (nI i) lo (cT h b n J F q t (-1)) = some (0, cT h b n J F (tN b n q) t (nI (tN b n q))) := by
  have h1 := tN_le (b := b) hq
  unfold F_X0_readLine_b36
  rw [x_takeW1 s tc hq wd_at e1, ob2_s, cT_k, gd_d (k1 s), if_neg (by decide), x_tN0 s tc h1 e2, ob2_s, cT_k, gd_d (k1 s), if_pos rfl]
  rfl
theorem c_f2 (s : Sh h) (tc : TC b n J F) (hq : q ≤ n) (hi : i < 20) (e1 : tIs b n q [97, 116]) (e2 : tOk b n (tN b n q) lo 999) (eg : J 3 5 = nI m) (e3 : ¬ tOk b n (tN b n (tN b n q)) 0 (nI m - 1)) : F_X0_readLine_b36 41 1 3 (nI i) lo (cT h b n J F q t (-1)) = some (0, cT h b n (up2 J 42 i (nI (tVl b n (tN b n q)))) F (tN b n (tN b n q)) (nI (tVl b n (tN b n q))) (nI (tN b n (tN b n q)))) := by
  obtain ⟨a1, a2, a3, a4, a5, a6, a7, a8, a9, a10⟩ := k41 s
  have h1 := tN_le (b := b) hq
  have h2 := tN_le (b := b) h1
  have t1 : TC b n (up2 J 42 i (nI (tVl b n (tN b n q)))) F := TC_up tc (by decide)
  unfold F_X0_readLine_b36
  rw [x_takeW1 s tc hq wd_at e1, ob2_s, cT_k, gd_d (k1 s), if_neg (by decide), x_tN1 s tc h1 e2, ob2_s, cT_k, gd_d (k1 s), if_neg (by decide), cT_k, gd_d a1, cT_R, a2, ob_s, cT_k, gd_d (k1 s), cT_k, gd_d a5, cT_l, a6, ix_t hi (by omega), gd_t, ncl (by omega), cT_5, cT_seta _ _ (by decide), cT_k, gd_d (k3 s), cT_a _ (by decide), up2_a _ _ _ _ _ (by decide), eg, x_tN0 s t1 h2 e3, ob2_s, if_pos rfl]
theorem c_f3 (s : Sh h) (tc : TC b n J F) (hq : q ≤ n) (hi : i < 20) (e1 : tIs b n q [97, 116]) (e2 : tOk b n (tN b n q) lo 999) (eg : J 3 5 = nI m) (e3 : tOk b n (tN b n (tN b n q)) 0 (nI m - 1)) (e4 : ¬ tIs b n (tN b n (tN b n (tN b n q))) [116, 111]) : F_X0_readLine_b36 41 1 3 (nI i) lo (cT h b n J F q t (-1)) = some (0, cT h b n (up2 (up2 J 42 i (nI (tVl b n (tN b n q)))) 43 i (nI (tVl b n (tN b n (tN b n q))))) F (tN b n (tN b n (tN b n q))) (nI (tVl b n (tN b n (tN b n q)))) (nI (tN b n (tN b n (tN b n q))))) := by
  obtain ⟨a1, a2, a3, a4, a5, a6, a7, a8, a9, a10⟩ := k41 s
  have h1 := tN_le (b := b) hq
  have h2 := tN_le (b := b) h1
  have h3 := tN_le (b := b) h2
  have t1 : TC b n (up2 J 42 i (nI (tVl b n (tN b n q)))) F := TC_up tc (by decide)
  have t2 : TC b n (up2 (up2 J 42 i (nI (tVl b n (tN b n q)))) 43 i (nI (tVl b n (tN b n (tN b n q))))) F := TC_up t1 (by decide)
  unfold F_X0_readLine_b36
  rw [x_takeW1 s tc hq wd_at e1, ob2_s, cT_k, gd_d (k1 s), if_neg (by decide), x_tN1 s tc h1 e2, ob2_s, cT_k, gd_d (k1 s), if_neg (by decide), cT_k, gd_d a1, cT_R, a2, ob_s, cT_k, gd_d (k1 s), cT_k, gd_d a5, cT_l, a6, ix_t hi (by omega), gd_t, ncl (by omega), cT_5, cT_seta _ _ (by decide), cT_k, gd_d (k3 s), cT_a _ (by decide), up2_a _ _ _ _ _ (by decide), eg, x_tN1 s t1 h2 e3, ob2_s, if_neg (by decide), cT_k, gd_d a1, cT_R, a3, ob_s, cT_k, gd_d (k1 s), cT_k, gd_d a7, cT_l, a8, ix_t hi (by omega), gd_t, cT_5, cT_seta _ _ (by decide), x_takeW0 s t2 h3 wd_to e4, ob2_s, if_pos rfl]
  rfl
theorem c_f4 (s : Sh h) (tc : TC b n J F) (hq : q ≤ n) (hi : i < 20) (e1 : tIs b n q [97, 116]) (e2 : tOk b n (tN b n q) lo 999) (eg : J 3 5 = nI m) (e3 : tOk b n (tN b n (tN b n q)) 0 (nI m - 1)) (e4 : tIs b n (tN b n (tN b n (tN b n q))) [116, 111]) (er : J 3 0 = nI r) (e5 : ¬ tOk b n (tN b n (tN b n (tN b n (tN b n q)))) 0 (nI r - 1)) : F_X0_readLine_b36 41 1 3 (nI i) lo (cT h b n J F q t (-1)) = some (0, cT h b n (up2 (up2 J 42 i (nI (tVl b n (tN b n q)))) 43 i (nI (tVl b n (tN b n (tN b n q))))) F (tN b n (tN b n (tN b n (tN b n q)))) (nI (tVl b n (tN b n (tN b n q)))) (nI (tN b n (tN b n (tN b n (tN b n q)))))) := by
  obtain ⟨a1, a2, a3, a4, a5, a6, a7, a8, a9, a10⟩ := k41 s
  have h1 := tN_le (b := b) hq
  have h2 := tN_le (b := b) h1
  have h3 := tN_le (b := b) h2
  have h4 := tN_le (b := b) h3
  have t1 : TC b n (up2 J 42 i (nI (tVl b n (tN b n q)))) F := TC_up tc (by decide)
  have t2 : TC b n (up2 (up2 J 42 i (nI (tVl b n (tN b n q)))) 43 i (nI (tVl b n (tN b n (tN b n q))))) F := TC_up t1 (by decide)
  unfold F_X0_readLine_b36
  rw [x_takeW1 s tc hq wd_at e1, ob2_s, cT_k, gd_d (k1 s), if_neg (by decide), x_tN1 s tc h1 e2, ob2_s, cT_k, gd_d (k1 s), if_neg (by decide), cT_k, gd_d a1, cT_R, a2, ob_s, cT_k, gd_d (k1 s), cT_k, gd_d a5, cT_l, a6, ix_t hi (by omega), gd_t, ncl (by omega), cT_5, cT_seta _ _ (by decide), cT_k, gd_d (k3 s), cT_a _ (by decide), up2_a _ _ _ _ _ (by decide), eg, x_tN1 s t1 h2 e3, ob2_s, if_neg (by decide), cT_k, gd_d a1, cT_R, a3, ob_s, cT_k, gd_d (k1 s), cT_k, gd_d a7, cT_l, a8, ix_t hi (by omega), gd_t, cT_5, cT_seta _ _ (by decide), x_takeW1 s t2 h3 wd_to e4, ob2_s, if_neg (by decide), cT_k, gd_d (k3 s), cT_a _ (by decide), up2_a _ _ _ _ _ (by decide), up2_a _ _ _ _ _ (by decide), er, x_tN0 s t2 h4 e5, ob2_s, cT_k, gd_d (k1 s), if_pos rfl]
  rfl
theorem r_f1 (s : Sh h) (tm : TM b n K G) (hq : q ≤ n) (hi : i < 20) (e1 : tIs b n q [97, 116]) (e2 : ¬ tOk b n (tN b n q) lo 999) : F_X12_readPage_b37 59 (nI i) 65 (nI (3 * i)) 59 lo (rfT h K G (tW b n q) q) = some (0, rfT h (up2 (up2 K 65 (3 * i) (-1)) 65 (3 * i + 1) (-1)) G (tD b n (tN b n q)) (tN b n q)) := by
  obtain ⟨a1, a2, a3⟩ := k65 s
  have w0 : tW b n q ≤ n := tTo_le isLe b hq
  unfold F_X12_readPage_b37
  rw [m_num0' s tm w0 (tN_w (tIs_lt (by decide) e1)) e2, ob2_s, m_k, gd_d (k59 s), m_k, gd_d a2, m_l, a3, ix_t (show 3 * i < 60 by omega) (by omega), gd_t, ncl (show 3 * i < 2147483648 by omega), m_seta _ _ (by decide), m_k, gd_d (k59 s), m_R, a1, ob_s, ob_s, m_k, gd_d a2, nl_3, nmul, m_l, a3, ix_t (show 3 * i < 60 by omega) (by omega), gd_t, ncl (show 3 * i < 2147483648 by omega), m_a _ (by decide), up2_e, if_neg (show ¬ (0 : Int32) ≤ -1 by decide)]
  unfold F_X12_readPage_b79
  rw [m_k, gd_d a2, m_l, a3, nl_3, nmul, nS_1, ix_t (show 3 * i + 1 < 60 by omega) (by omega), gd_t, ncl (show 3 * i + 1 < 2147483648 by omega), m_seta _ _ (by decide), m_k, gd_d (k59 s), m_R, a1, ob_s, m_k, gd_d a2, m_l, a3, ix_t (show 3 * i + 1 < 60 by omega) (by omega), gd_t, m_a _ (by decide), up2_e, if_pos (show (-1 : Int32) < 0 by decide)]
  rfl
theorem r_f2 (s : Sh h) (tm : TM b n K G) (hq : q ≤ n) (hi : i < 20) (e1 : tIs b n q [97, 116]) (e2 : tOk b n (tN b n q) lo 999) (eg : K 60 1 = nI m) (e3 : ¬ tOk b n (tN b n (tN b n q)) 0 (nI m - 1)) : F_X12_readPage_b37 59 (nI i) 65 (nI (3 * i)) 59 lo (rfT h K G (tW b n q) q) = some (0, rfT h (up2 (up2 K 65 (3 * i) (nI (tVl b n (tN b n q)))) 65 (3 * i + 1) (-1)) G (tD b n (tN b n (tN b n q))) (tN b n (tN b n q))) := by
  obtain ⟨a1, a2, a3⟩ := k65 s
  have h1 := tN_le (b := b) hq
  have w0 : tW b n q ≤ n := tTo_le isLe b hq
  have d1 : tD b n (tN b n q) ≤ n := tTo_le isDi b h1
  have v0 := tVl_lt h1 e2.2.1
  have tm1 : TM b n (up2 K 65 (3 * i) (nI (tVl b n (tN b n q)))) G := TM_up tm (by decide)
  have sT : Sh (rfT h (up2 K 65 (3 * i) (nI (tVl b n (tN b n q)))) G (tD b n (tN b n q)) (tN b n q)) := s
  unfold F_X12_readPage_b37
  rw [m_num1' s tm w0 (tN_w (tIs_lt (by decide) e1)) e2, ob2_s, m_k, gd_d (k59 s), m_k, gd_d a2, m_l, a3, ix_t (show 3 * i < 60 by omega) (by omega), gd_t, ncl (show 3 * i < 2147483648 by omega), m_seta _ _ (by decide), m_k, gd_d (k59 s), m_R, a1, ob_s, ob_s, m_k, gd_d a2, nl_3, nmul, m_l, a3, ix_t (show 3 * i < 60 by omega) (by omega), gd_t, ncl (show 3 * i < 2147483648 by omega), m_a _ (by decide), up2_e, if_pos (nI_pos' (show tVl b n (tN b n q) < 2147483648 by omega)), m_guests sT, ob_s, m_a _ (by decide), up2_a _ _ _ _ _ (by decide), eg, m_num0' s tm1 d1 (tN_d h1 e2.1) e3, ob2_s]
  unfold F_X12_readPage_b79
  rw [m_k, gd_d a2, m_l, a3, nl_3, nmul, nS_1, ix_t (show 3 * i + 1 < 60 by omega) (by omega), gd_t, ncl (show 3 * i + 1 < 2147483648 by omega), m_seta _ _ (by decide), m_k, gd_d (k59 s), m_R, a1, ob_s, m_k, gd_d a2, m_l, a3, ix_t (show 3 * i + 1 < 60 by omega) (by omega), gd_t, m_a _ (by decide), up2_e, if_pos (show (-1 : Int32) < 0 by decide)]
  rfl
theorem r_f3 (s : Sh h) (tm : TM b n K G) (hq : q ≤ n) (hi : i < 20) (e1 : tIs b n q [97, 116]) (e2 : tOk b n (tN b n q) lo 999) (eg : K 60 1 = nI m) (e3 : tOk b n (tN b n (tN b n q)) 0 (nI m - 1)) (e4 : ¬ tIs b n (tN b n (tN b n (tN b n q))) [116, 111]) : F_X12_readPage_b37 59 (nI i) 65 (nI (3 * i)) 59 lo (rfT h K G (tW b n q) q) = some (0, rfT h (up2 (up2 K 65 (3 * i) (nI (tVl b n (tN b n q)))) 65 (3 * i + 1) (nI (tVl b n (tN b n (tN b n q))))) G (tW b n (tN b n (tN b n (tN b n q)))) (tN b n (tN b n (tN b n q)))) := by
  obtain ⟨a1, a2, a3⟩ := k65 s
  have h1 := tN_le (b := b) hq
  have h2 := tN_le (b := b) h1
  have w0 : tW b n q ≤ n := tTo_le isLe b hq
  have d1 : tD b n (tN b n q) ≤ n := tTo_le isDi b h1
  have d2 : tD b n (tN b n (tN b n q)) ≤ n := tTo_le isDi b h2
  have v0 := tVl_lt h1 e2.2.1
  have v2 := tVl_lt h2 e3.2.1
  have tm1 : TM b n (up2 K 65 (3 * i) (nI (tVl b n (tN b n q)))) G := TM_up tm (by decide)
  have tm2 : TM b n (up2 (up2 K 65 (3 * i) (nI (tVl b n (tN b n q)))) 65 (3 * i + 1) (nI (tVl b n (tN b n (tN b n q))))) G := TM_up tm1 (by decide)
  have sT : Sh (rfT h (up2 K 65 (3 * i) (nI (tVl b n (tN b n q)))) G (tD b n (tN b n q)) (tN b n q)) := s
  unfold F_X12_readPage_b37
  rw [m_num1' s tm w0 (tN_w (tIs_lt (by decide) e1)) e2, ob2_s, m_k, gd_d (k59 s), m_k, gd_d a2, m_l, a3, ix_t (show 3 * i < 60 by omega) (by omega), gd_t, ncl (show 3 * i < 2147483648 by omega), m_seta _ _ (by decide), m_k, gd_d (k59 s), m_R, a1, ob_s, ob_s, m_k, gd_d a2, nl_3, nmul, m_l, a3, ix_t (show 3 * i < 60 by omega) (by omega), gd_t, ncl (show 3 * i < 2147483648 by omega), m_a _ (by decide), up2_e, if_pos (nI_pos' (show tVl b n (tN b n q) < 2147483648 by omega)), m_guests sT, ob_s, m_a _ (by decide), up2_a _ _ _ _ _ (by decide), eg, m_num1' s tm1 d1 (tN_d h1 e2.1) e3, ob2_s]
  unfold F_X12_readPage_b79
  rw [m_k, gd_d a2, m_l, a3, nl_3, nmul, nS_1, ix_t (show 3 * i + 1 < 60 by omega) (by omega), gd_t, ncl (show 3 * i + 1 < 2147483648 by omega), m_seta _ _ (by decide), m_k, gd_d (k59 s), m_R, a1, ob_s, m_k, gd_d a2, m_l, a3, ix_t (show 3 * i + 1 < 60 by omega) (by omega), gd_t, m_a _ (by decide), up2_e, if_neg (nI_pos (show tVl b n (tN b n (tN b n q)) < 2147483648 by omega)), m_need0' s tm2 d2 (tN_d h2 e3.1) wd_to2 e4, ob2_s, if_pos rfl]
  rfl
theorem r_f4 (s : Sh h) (tm : TM b n K G) (hq : q ≤ n) (hi : i < 20) (e1 : tIs b n q [97, 116]) (e2 : tOk b n (tN b n q) lo 999) (eg : K 60 1 = nI m) (e3 : tOk b n (tN b n (tN b n q)) 0 (nI m - 1)) (e4 : tIs b n (tN b n (tN b n (tN b n q))) [116, 111]) (er : K 60 0 = nI r) (e5 : ¬ tOk b n (tN b n (tN b n (tN b n (tN b n q)))) 0 (nI r - 1)) : F_X12_readPage_b37 59 (nI i) 65 (nI (3 * i)) 59 lo (rfT h K G (tW b n q) q) = some (0, rfT h (up2 (up2 (up2 K 65 (3 * i) (nI (tVl b n (tN b n q)))) 65 (3 * i + 1) (nI (tVl b n (tN b n (tN b n q))))) 65 (3 * i + 2) (-1)) G (tD b n (tN b n (tN b n (tN b n (tN b n q))))) (tN b n (tN b n (tN b n (tN b n q))))) := by
  obtain ⟨a1, a2, a3⟩ := k65 s
  have h1 := tN_le (b := b) hq
  have h2 := tN_le (b := b) h1
  have h3 := tN_le (b := b) h2
  have w0 : tW b n q ≤ n := tTo_le isLe b hq
  have d1 : tD b n (tN b n q) ≤ n := tTo_le isDi b h1
  have d2 : tD b n (tN b n (tN b n q)) ≤ n := tTo_le isDi b h2
  have w3 : tW b n (tN b n (tN b n (tN b n q))) ≤ n := tTo_le isLe b h3
  have v0 := tVl_lt h1 e2.2.1
  have v2 := tVl_lt h2 e3.2.1
  have tm1 : TM b n (up2 K 65 (3 * i) (nI (tVl b n (tN b n q)))) G := TM_up tm (by decide)
  have tm2 : TM b n (up2 (up2 K 65 (3 * i) (nI (tVl b n (tN b n q)))) 65 (3 * i + 1) (nI (tVl b n (tN b n (tN b n q))))) G := TM_up tm1 (by decide)
  have sT : Sh (rfT h (up2 K 65 (3 * i) (nI (tVl b n (tN b n q)))) G (tD b n (tN b n q)) (tN b n q)) := s
  have er2 : (up2 (up2 K 65 (3 * i) (nI (tVl b n (tN b n q)))) 65 (3 * i + 1) (nI (tVl b n (tN b n (tN b n q))))) 60 0 = nI r := by rw [up2_a _ _ _ _ _ (by decide), up2_a _ _ _ _ _ (by decide)]; exact er
  unfold F_X12_readPage_b37
  rw [m_num1' s tm w0 (tN_w (tIs_lt (by decide) e1)) e2, ob2_s, m_k, gd_d (k59 s), m_k, gd_d a2, m_l, a3, ix_t (show 3 * i < 60 by omega) (by omega), gd_t, ncl (show 3 * i < 2147483648 by omega), m_seta _ _ (by decide), m_k, gd_d (k59 s), m_R, a1, ob_s, ob_s, m_k, gd_d a2, nl_3, nmul, m_l, a3, ix_t (show 3 * i < 60 by omega) (by omega), gd_t, ncl (show 3 * i < 2147483648 by omega), m_a _ (by decide), up2_e, if_pos (nI_pos' (show tVl b n (tN b n q) < 2147483648 by omega)), m_guests sT, ob_s, m_a _ (by decide), up2_a _ _ _ _ _ (by decide), eg, m_num1' s tm1 d1 (tN_d h1 e2.1) e3, ob2_s]
  unfold F_X12_readPage_b79
  rw [m_k, gd_d a2, m_l, a3, nl_3, nmul, nS_1, ix_t (show 3 * i + 1 < 60 by omega) (by omega), gd_t, ncl (show 3 * i + 1 < 2147483648 by omega), m_seta _ _ (by decide), m_k, gd_d (k59 s), m_R, a1, ob_s, m_k, gd_d a2, m_l, a3, ix_t (show 3 * i + 1 < 60 by omega) (by omega), gd_t, m_a _ (by decide), up2_e, if_neg (nI_pos (show tVl b n (tN b n (tN b n q)) < 2147483648 by omega)), m_need1' s tm2 d2 (tN_d h2 e3.1) wd_to2 e4, ob2_s, if_neg (by decide), m_k, gd_d (k59 s), m_R, a1, ob_s, m_told0 s tm2 w3 (tN_w (tIs_lt (by decide) e4)) er2 e5, ob2_s, m_k, gd_d a2, m_l, a3, nS_2, ix_t (show 3 * i + 2 < 60 by omega) (by omega), gd_t, ncl (show 3 * i + 2 < 2147483648 by omega), m_seta _ _ (by decide), m_k, gd_d (k59 s), m_R, a1, ob_s, m_k, gd_d a2, m_l, a3, ix_t (show 3 * i + 2 < 60 by omega) (by omega), gd_t, m_a _ (by decide), up2_e, if_pos (show (-1 : Int32) < 0 by decide)]
  rfl
theorem r_ok (s : Sh h) (tm : TM b n K G) (hq : q ≤ n) (hi : i < 20) (e1 : tIs b n q [97, 116]) (e2 : tOk b n (tN b n q) lo 999) (eg : K 60 1 = nI m) (e3 : tOk b n (tN b n (tN b n q)) 0 (nI m - 1)) (e4 : tIs b n (tN b n (tN b n (tN b n q))) [116, 111]) (er : K 60 0 = nI r) (e5 : tOk b n (tN b n (tN b n (tN b n (tN b n q)))) 0 (nI r - 1)) : F_X12_readPage_b37 59 (nI i) 65 (nI (3 * i)) 59 lo (rfT h K G (tW b n q) q) = some (1, rfT h (up2 (up2 (up2 K 65 (3 * i) (nI (tVl b n (tN b n q)))) 65 (3 * i + 1) (nI (tVl b n (tN b n (tN b n q))))) 65 (3 * i + 2) (nI (tVl b n (tN b n (tN b n (tN b n (tN b n q))))))) G (tD b n (tN b n (tN b n (tN b n (tN b n q))))) (tN b n (tN b n (tN b n (tN b n q))))) := by
  obtain ⟨a1, a2, a3⟩ := k65 s
  have h1 := tN_le (b := b) hq
  have h2 := tN_le (b := b) h1
  have h3 := tN_le (b := b) h2
  have h4 := tN_le (b := b) h3
  have w0 : tW b n q ≤ n := tTo_le isLe b hq
  have d1 : tD b n (tN b n q) ≤ n := tTo_le isDi b h1
  have d2 : tD b n (tN b n (tN b n q)) ≤ n := tTo_le isDi b h2
  have w3 : tW b n (tN b n (tN b n (tN b n q))) ≤ n := tTo_le isLe b h3
  have v0 := tVl_lt h1 e2.2.1
  have v2 := tVl_lt h2 e3.2.1
  have v4 := tVl_lt h4 e5.2.1
  have tm1 : TM b n (up2 K 65 (3 * i) (nI (tVl b n (tN b n q)))) G := TM_up tm (by decide)
  have tm2 : TM b n (up2 (up2 K 65 (3 * i) (nI (tVl b n (tN b n q)))) 65 (3 * i + 1) (nI (tVl b n (tN b n (tN b n q))))) G := TM_up tm1 (by decide)
  have sT : Sh (rfT h (up2 K 65 (3 * i) (nI (tVl b n (tN b n q)))) G (tD b n (tN b n q)) (tN b n q)) := s
  have er2 : (up2 (up2 K 65 (3 * i) (nI (tVl b n (tN b n q)))) 65 (3 * i + 1) (nI (tVl b n (tN b n (tN b n q))))) 60 0 = nI r := by rw [up2_a _ _ _ _ _ (by decide), up2_a _ _ _ _ _ (by decide)]; exact er
  unfold F_X12_readPage_b37
  rw [m_num1' s tm w0 (tN_w (tIs_lt (by decide) e1)) e2, ob2_s, m_k, gd_d (k59 s), m_k, gd_d a2, m_l, a3, ix_t (show 3 * i < 60 by omega) (by omega), gd_t, ncl (show 3 * i < 2147483648 by omega), m_seta _ _ (by decide), m_k, gd_d (k59 s), m_R, a1, ob_s, ob_s, m_k, gd_d a2, nl_3, nmul, m_l, a3, ix_t (show 3 * i < 60 by omega) (by omega), gd_t, ncl (show 3 * i < 2147483648 by omega), m_a _ (by decide), up2_e, if_pos (nI_pos' (show tVl b n (tN b n q) < 2147483648 by omega)), m_guests sT, ob_s, m_a _ (by decide), up2_a _ _ _ _ _ (by decide), eg, m_num1' s tm1 d1 (tN_d h1 e2.1) e3, ob2_s]
  unfold F_X12_readPage_b79
  rw [m_k, gd_d a2, m_l, a3, nl_3, nmul, nS_1, ix_t (show 3 * i + 1 < 60 by omega) (by omega), gd_t, ncl (show 3 * i + 1 < 2147483648 by omega), m_seta _ _ (by decide), m_k, gd_d (k59 s), m_R, a1, ob_s, m_k, gd_d a2, m_l, a3, ix_t (show 3 * i + 1 < 60 by omega) (by omega), gd_t, m_a _ (by decide), up2_e, if_neg (nI_pos (show tVl b n (tN b n (tN b n q)) < 2147483648 by omega)), m_need1' s tm2 d2 (tN_d h2 e3.1) wd_to2 e4, ob2_s, if_neg (by decide), m_k, gd_d (k59 s), m_R, a1, ob_s, m_told1 s tm2 w3 (tN_w (tIs_lt (by decide) e4)) er2 e5, ob2_s, m_k, gd_d a2, m_l, a3, nS_2, ix_t (show 3 * i + 2 < 60 by omega) (by omega), gd_t, ncl (show 3 * i + 2 < 2147483648 by omega), m_seta _ _ (by decide), m_k, gd_d (k59 s), m_R, a1, ob_s, m_k, gd_d a2, m_l, a3, ix_t (show 3 * i + 2 < 60 by omega) (by omega), gd_t, m_a _ (by decide), up2_e, if_neg (nI_pos (show tVl b n (tN b n (tN b n (tN b n (tN b n q)))) < 2147483648 by omega))]
  rfl
end BOOKM
