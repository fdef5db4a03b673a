/-! WISHES: the reference's, and the call met -/
section MET
variable {h : Hp}
theorem r59_16 (s : Sh h) : zR h 59 16 = some 67 := by unfold Sh at s; simp only [s]
theorem k67 (s : Sh h) : kd h 67 = 13 := by unfold Sh at s; simp only [s]
theorem l67 (s : Sh h) : zl h 67 = 400 := by unfold Sh at s; simp only [s]
theorem m_fact {f : Nat → Int32} (s : Sh h) (e60 : zI h 60 = f) (i : Inv f) {sf : Nat → Nat} (hs : seated h 66 (nG f) sf) {g : Nat} (hg : g < nG f) {k n : Int32} (q : factK k n) : F_X12_factOf 59 k n (nI g) h = some (faS f sf g k n) := by
  subst e60
  have g5 := iG5 i
  obtain ⟨z1, z2⟩ := hs g hg
  have hd := hdS_le sf (nG (zI h 60)) (sf g)
  have e1 : (nI (hdS sf (nG (zI h 60)) (sf g)) = 1) = (hdS sf (nG (zI h 60)) (sf g) = 1) := propext (nI_eq (b := 1) (by omega) (by omega))
  have e2 : (nI (sR (zI h 60)) = nI (sf g)) = (sR (zI h 60) = sf g) := propext (nI_eq (by have := (iS i).2.1; omega) (by omega))
  have i6 : ix (6 : Int32) 5049 = true := by decide
  have c6 : (6 : Int32).toNatClampNeg = 6 := by decide
  rcases q with rfl | rfl | rfl | rfl | rfl | rfl | rfl | rfl | ⟨rfl, hn⟩ | ⟨rfl, hn⟩
  · simp +decide (disch := omega) only [F_X12_factOf, F_X12_factOf_b0, r59_15 s, k66 s, l66 s, z1, ix_t, ncl, m_ofX s, faS, k59 s, r59_1 s, k60 s, l60 s, k0 s, r0_1 s, k3 s, r3_1 s, r3_2 s, r3_3 s, r3_4 s, r3_6 s, r3_7 s, r3_8 s, r3_9 s, r3_16 s, k4 s, k5 s, k6 s, k7 s, k8 s, k9 s, l4 s, l5 s, l6 s, l7 s, l8 s, l9 s, k11 s, r11_1 s, r11_2 s, r11_3 s, k12 s, k13 s, k14 s, l12 s, l13 s, l14 s, k15 s, r0_0 s, k1 s, gd_t, ob_s, ob2_s, ob4_s, sm_l, sm_r, ac_s, decide_true, decide_false, eq_self, ne_eq, not_false_eq_true, not_true_eq_false, if_true, if_false, ite_true, ite_false, reduceIte, or_true, true_or, or_false, false_or, and_true, true_and, Bool.false_eq_true, reduceCtorEq]
  · simp +decide (disch := omega) only [F_X12_factOf, F_X12_factOf_b0, r59_15 s, k66 s, l66 s, z1, ix_t, ncl, m_ofY s, faS, k59 s, r59_1 s, k60 s, l60 s, k0 s, r0_1 s, k3 s, r3_1 s, r3_2 s, r3_3 s, r3_4 s, r3_6 s, r3_7 s, r3_8 s, r3_9 s, r3_16 s, k4 s, k5 s, k6 s, k7 s, k8 s, k9 s, l4 s, l5 s, l6 s, l7 s, l8 s, l9 s, k11 s, r11_1 s, r11_2 s, r11_3 s, k12 s, k13 s, k14 s, l12 s, l13 s, l14 s, k15 s, r0_0 s, k1 s, gd_t, ob_s, ob2_s, ob4_s, sm_l, sm_r, ac_s, decide_true, decide_false, eq_self, ne_eq, not_false_eq_true, not_true_eq_false, if_true, if_false, ite_true, ite_false, reduceIte, or_true, true_or, or_false, false_or, and_true, true_and, Bool.false_eq_true, reduceCtorEq]
  · simp +decide (disch := omega) only [F_X12_factOf, F_X12_factOf_b0, r59_15 s, k66 s, l66 s, z1, ix_t, ncl, m_ofX s, m_ofY s, m_farOf, faS, k59 s, r59_1 s, k60 s, l60 s, k0 s, r0_1 s, k3 s, r3_1 s, r3_2 s, r3_3 s, r3_4 s, r3_6 s, r3_7 s, r3_8 s, r3_9 s, r3_16 s, k4 s, k5 s, k6 s, k7 s, k8 s, k9 s, l4 s, l5 s, l6 s, l7 s, l8 s, l9 s, k11 s, r11_1 s, r11_2 s, r11_3 s, k12 s, k13 s, k14 s, l12 s, l13 s, l14 s, k15 s, r0_0 s, k1 s, gd_t, ob_s, ob2_s, ob4_s, sm_l, sm_r, ac_s, decide_true, decide_false, eq_self, ne_eq, not_false_eq_true, not_true_eq_false, if_true, if_false, ite_true, ite_false, reduceIte, or_true, true_or, or_false, false_or, and_true, true_and, Bool.false_eq_true, reduceCtorEq]
  · simp +decide (disch := omega) only [F_X12_factOf, F_X12_factOf_b0, r59_15 s, k66 s, l66 s, z1, ix_t, ncl, m_headsIn s i hs, faS, k59 s, r59_1 s, k60 s, l60 s, k0 s, r0_1 s, k3 s, r3_1 s, r3_2 s, r3_3 s, r3_4 s, r3_6 s, r3_7 s, r3_8 s, r3_9 s, r3_16 s, k4 s, k5 s, k6 s, k7 s, k8 s, k9 s, l4 s, l5 s, l6 s, l7 s, l8 s, l9 s, k11 s, r11_1 s, r11_2 s, r11_3 s, k12 s, k13 s, k14 s, l12 s, l13 s, l14 s, k15 s, r0_0 s, k1 s, gd_t, ob_s, ob2_s, ob4_s, sm_l, sm_r, ac_s, decide_true, decide_false, eq_self, ne_eq, not_false_eq_true, not_true_eq_false, if_true, if_false, ite_true, ite_false, reduceIte, or_true, true_or, or_false, false_or, and_true, true_and, Bool.false_eq_true, reduceCtorEq]
  · simp +decide (disch := omega) only [F_X12_factOf, F_X12_factOf_b0, r59_15 s, k66 s, l66 s, z1, ix_t, ncl, m_ofS s, faS, k59 s, r59_1 s, k60 s, l60 s, k0 s, r0_1 s, k3 s, r3_1 s, r3_2 s, r3_3 s, r3_4 s, r3_6 s, r3_7 s, r3_8 s, r3_9 s, r3_16 s, k4 s, k5 s, k6 s, k7 s, k8 s, k9 s, l4 s, l5 s, l6 s, l7 s, l8 s, l9 s, k11 s, r11_1 s, r11_2 s, r11_3 s, k12 s, k13 s, k14 s, l12 s, l13 s, l14 s, k15 s, r0_0 s, k1 s, gd_t, ob_s, ob2_s, ob4_s, sm_l, sm_r, ac_s, decide_true, decide_false, eq_self, ne_eq, not_false_eq_true, not_true_eq_false, if_true, if_false, ite_true, ite_false, reduceIte, or_true, true_or, or_false, false_or, and_true, true_and, Bool.false_eq_true, reduceCtorEq]
  · simp +decide (disch := omega) only [F_X12_factOf, F_X12_factOf_b0, r59_15 s, k66 s, l66 s, z1, ix_t, ncl, faS, k59 s, r59_1 s, k60 s, l60 s, k0 s, r0_1 s, k3 s, r3_1 s, r3_2 s, r3_3 s, r3_4 s, r3_6 s, r3_7 s, r3_8 s, r3_9 s, r3_16 s, k4 s, k5 s, k6 s, k7 s, k8 s, k9 s, l4 s, l5 s, l6 s, l7 s, l8 s, l9 s, k11 s, r11_1 s, r11_2 s, r11_3 s, k12 s, k13 s, k14 s, l12 s, l13 s, l14 s, k15 s, r0_0 s, k1 s, gd_t, ob_s, ob2_s, ob4_s, sm_l, sm_r, ac_s, decide_true, decide_false, eq_self, ne_eq, not_false_eq_true, not_true_eq_false, if_true, if_false, ite_true, ite_false, reduceIte, or_true, true_or, or_false, false_or, and_true, true_and, Bool.false_eq_true, reduceCtorEq]
  · simp +decide (disch := omega) only [F_X12_factOf, F_X12_factOf_b0, F_X12_factOf_b133, r59_15 s, k66 s, l66 s, z1, ix_t, ncl, m_headsIn s i hs, e1, ite_bI, faS, k59 s, r59_1 s, k60 s, l60 s, k0 s, r0_1 s, k3 s, r3_1 s, r3_2 s, r3_3 s, r3_4 s, r3_6 s, r3_7 s, r3_8 s, r3_9 s, r3_16 s, k4 s, k5 s, k6 s, k7 s, k8 s, k9 s, l4 s, l5 s, l6 s, l7 s, l8 s, l9 s, k11 s, r11_1 s, r11_2 s, r11_3 s, k12 s, k13 s, k14 s, l12 s, l13 s, l14 s, k15 s, r0_0 s, k1 s, gd_t, ob_s, ob2_s, ob4_s, sm_l, sm_r, ac_s, decide_true, decide_false, eq_self, ne_eq, not_false_eq_true, not_true_eq_false, if_true, if_false, ite_true, ite_false, reduceIte, or_true, true_or, or_false, false_or, and_true, true_and, Bool.false_eq_true, reduceCtorEq]
  · simp +decide (disch := omega) only [F_X12_factOf, F_X12_factOf_b0, F_X12_factOf_b151, r59_15 s, k66 s, l66 s, z1, ix_t, ncl, i6, c6, (iS i).1, e2, ite_bI, faS, k59 s, r59_1 s, k60 s, l60 s, k0 s, r0_1 s, k3 s, r3_1 s, r3_2 s, r3_3 s, r3_4 s, r3_6 s, r3_7 s, r3_8 s, r3_9 s, r3_16 s, k4 s, k5 s, k6 s, k7 s, k8 s, k9 s, l4 s, l5 s, l6 s, l7 s, l8 s, l9 s, k11 s, r11_1 s, r11_2 s, r11_3 s, k12 s, k13 s, k14 s, l12 s, l13 s, l14 s, k15 s, r0_0 s, k1 s, gd_t, ob_s, ob2_s, ob4_s, sm_l, sm_r, ac_s, decide_true, decide_false, eq_self, ne_eq, not_false_eq_true, not_true_eq_false, if_true, if_false, ite_true, ite_false, reduceIte, or_true, true_or, or_false, false_or, and_true, true_and, Bool.false_eq_true, reduceCtorEq]
  · have e6 : faS (zI h 60) sf g 8 n = bI (isIn n (nG (zI h 60)) && decide (sf n.toNatClampNeg = sf g)) := rfl
    have e0 : ¬ n < 0 := by
      rw [fa_lt]
      have : (0 : Int32).toInt = 0 := rfl
      omega
    obtain ⟨j, hj, rfl⟩ := nI_of e0
    rw [nI_toInt hj] at hn
    rw [e6]
    unfold F_X12_factOf F_X12_factOf_b0 F_X12_factOf_b175 F_X12_factOf_b176
    rw [gd_d (k59 s), r59_15 s, ob_s, gd_d (k66 s), l66 s, ix_t (by omega) (by omega), gd_t, if_neg (by decide), if_neg (by decide), if_neg (by decide), if_neg (by decide), if_neg (by decide), if_neg (by decide), if_neg (by decide), if_neg (by decide), if_pos rfl, m_guests s, ob_s, iG i, ncl (show g < _ by omega), z1]
    by_cases w : j < nG (zI h 60)
    · obtain ⟨y1, y2⟩ := hs j w
      have e7 : (nI (sf j) = nI (sf g)) = (sf j = sf g) := propext (nI_eq (by omega) (by omega))
      rw [if_neg (nI_ge w (by omega)), ob_s, gd_d (k66 s), l66 s, ix_t (by omega) (by omega), gd_t, ncl (by omega), y1, isIn_nI w (by omega), Bool.true_and]
      by_cases w2 : sf j = sf g
      · rw [if_pos (by rw [e7]; exact w2), decide_eq_true w2]; rfl
      · rw [if_neg (by rw [e7]; exact w2), decide_eq_false w2]; rfl
    · rw [if_pos (nI_le (by omega) (by omega))]
      have : isIn (nI j) (nG (zI h 60)) = false := by
        unfold isIn
        rw [nI_clamp hj, decide_eq_false w, Bool.and_false]
      rw [this, Bool.false_and]
      rfl
  · unfold F_X12_factOf F_X12_factOf_b0
    rw [gd_d (k59 s), r59_15 s, ob_s, gd_d (k66 s), l66 s, ix_t (by omega) (by omega), gd_t, if_neg (by decide), if_neg (by decide), if_neg (by decide), if_neg (by decide), if_neg (by decide), if_neg (by decide), if_neg (by decide), if_neg (by decide), if_neg (by decide)]
    rfl
def wB (g w : Int32) (b : Int32) : Int32 × Int32 × Hp → Option ((Int32 × Int32 × Hp) ⊕ Hp) := fun z => F_X12_holdsWish_l27 59 g w b z.1 z.2.1 z.2.2
theorem fact_9 {k n : Int32} (q : factK k n) : ¬ (9 : Int32) < k := by
  rcases q with rfl | rfl | rfl | rfl | rfl | rfl | rfl | rfl | ⟨rfl, hn⟩ | ⟨rfl, hn⟩ <;> decide
theorem m_hst {f : Nat → Int32} (s : Sh h) (e60 : zI h 60 = f) (i : Inv f) {sf : Nat → Nat} (hs : seated h 66 (nG f) sf) {g : Nat} (hg : g < nG f) {ty ty' : List Bool} {st : List Int32} {x z w : Nat} (hty : tyS (f (147 + 817 * g + (17 + 2 * x))) (f (147 + 817 * g + (18 + 2 * x))) ty = some ty') (hv : tyV ty st) {M : Nat → Int32} (hM : memS M st) (hx : x < z) (hz : z ≤ 400) (hw : w < 8) (ez : f (147 + 817 * g + (2 + 2 * w)) = nI z) (hl32 : st.length ≤ 32) : ∃ M', wB (nI g) (nI w) (nI (147 + 817 * g)) (nI st.length, nI x, stH h 67 M) = some (.inl (nI (evS (faS f sf g) (f (147 + 817 * g + (17 + 2 * x))) (f (147 + 817 * g + (18 + 2 * x))) st).length, nI (x + 1), stH h 67 M')) ∧ memS M' (evS (faS f sf g) (f (147 + 817 * g + (17 + 2 * x))) (f (147 + 817 * g + (18 + 2 * x))) st) ∧ tyV ty' (evS (faS f sf g) (f (147 + 817 * g + (17 + 2 * x))) (f (147 + 817 * g + (18 + 2 * x))) st) ∧ (evS (faS f sf g) (f (147 + 817 * g + (17 + 2 * x))) (f (147 + 817 * g + (18 + 2 * x))) st).length ≤ 32 := by
  have g5 := iG5 i
  have s' : Sh (stH h 67 M) := s
  have e6 : zI (stH h 67 M) 60 = f := (stH_o (by decide)).trans e60
  have hs' : seated (stH h 67 M) 66 (nG f) sf := fun j hj => by
    rw [stH_o (by decide)]
    exact hs j hj
  have a1 : (nI (147 + 817 * g) + (2 : Int32)) + (2 : Int32) * nI w = nI (147 + 817 * g + (2 + 2 * w)) := by
    rw [nl_2, nmul, nadd, nadd, Nat.add_assoc]
  have a2 : (nI (147 + 817 * g) + (17 : Int32)) + (2 : Int32) * nI x = nI (147 + 817 * g + (17 + 2 * x)) := by
    rw [nl_17, nl_2, nmul, nadd, nadd, Nat.add_assoc]
  have a3 : nI (147 + 817 * g + (17 + 2 * x)) + (1 : Int32) = nI (147 + 817 * g + (18 + 2 * x)) := by
    rw [nI_1]
    congr 1
    omega
  show ∃ M', F_X12_holdsWish_l27 59 (nI g) (nI w) (nI (147 + 817 * g)) (nI st.length) (nI x) (stH h 67 M) = _ ∧ _
  unfold F_X12_holdsWish_l27
  rw [gd_d (k59 s'), r59_1 s', ob_s, gd_d (k60 s'), a1, l60 s', ix_t (by omega) (by omega), gd_t, ncl (by omega), e6, ez, if_neg (nI_ge hx (by omega)), ob_s, gd_d (k60 s'), a2, l60 s', ix_t (by omega) (by omega), gd_t, ncl (by omega), e6]
  generalize hkk : f (147 + 817 * g + (17 + 2 * x)) = k at hty ⊢
  generalize hnn : f (147 + 817 * g + (18 + 2 * x)) = n at hty ⊢
  rcases ev_cases (f := f) (sf := sf) (g := g) hty hv with ⟨hf, q1, q2, q3⟩ | ⟨rfl, a, r, rfl, ha, q2, q3⟩ | ⟨hf, b', a, r, rfl, q2, q3⟩
  · refine ⟨va_up M st.length (faS f sf g k n), ?_, by rw [q2]; exact memS_push hM, by rw [q2]; exact q3, by rw [q2]; show st.length + 1 ≤ 32; omega⟩
    unfold F_X12_holdsWish_b273
    rw [if_neg (fact_9 hf), r59_16 s', ob_s, ob_s, gd_d (k60 s'), a3, l60 s', ix_t (by omega) (by omega), gd_t, ncl (by omega), e6, hnn, m_fact s' e6 i hs' hg hf, ob_s, gd_d (k67 s'), l67 s', ix_t (by omega) (by omega), gd_t, ncl (by omega), stH_w, nI_1, nI_1, q2]
    rfl
  · refine ⟨va_up M r.length (1 - a), ?_, by rw [q2]; exact ⟨va_e _ _ _, memS_up (Nat.le_refl _) hM.2⟩, by rw [q2]; exact q3, by rw [q2]; exact hl32⟩
    have el : (a :: r).length = r.length + 1 := rfl
    have lr : r.length + 1 ≤ 32 := hl32
    unfold F_X12_holdsWish_b273
    rw [if_pos (by decide), if_pos rfl, el, r59_16 s', ob_s, ob_s, gd_d (k67 s'), nI_pred, l67 s', ix_t (by omega) (by omega), gd_t, gd_d (k67 s'), gd_t, ncl (by omega), stH_e, hM.1, stH_w, nI_1, q2]
    rfl
  · have el : (b' :: a :: r).length = r.length + 2 := rfl
    have lr : r.length + 2 ≤ 32 := hl32
    have m1 : M (r.length + 1) = b' := hM.1
    have m2 : M r.length = a := hM.2.1
    refine ⟨va_up M r.length (jnS k a b'), ?_, by rw [q2]; exact ⟨va_e _ _ _, memS_up (Nat.le_refl _) hM.2.2⟩, by rw [q2]; exact q3, by rw [q2]; show r.length + 1 ≤ 32; omega⟩
    have e272 : ∀ v : Int32, F_X12_holdsWish_b272 59 (nI g) (nI w) (nI (147 + 817 * g)) (nI (r.length + 1)) (nI x) 67 (nI (r.length + 1) - 1) v (stH h 67 M) = some (.inl (nI (r.length + 1), nI (x + 1), stH h 67 (va_up M r.length v))) := by
      intro v
      unfold F_X12_holdsWish_b272 F_X12_holdsWish_b273
      rw [gd_d (k67 s'), nI_pred, l67 s', ix_t (by omega) (by omega), gd_t, ncl (by omega), stH_w, nI_1]
    have e237 : ∀ (k t : Int32), F_X12_holdsWish_b237 59 (nI g) (nI w) (nI (147 + 817 * g)) (nI (r.length + 1)) (nI x) k a b' t (stH h 67 M) = some (.inl (nI (r.length + 1), nI (x + 1), stH h 67 (va_up M r.length (if k = 10 then a + b' else if t = 0 then 0 else 1)))) := by
      intro k t
      unfold F_X12_holdsWish_b237
      rw [gd_d (k59 s'), r59_16 s', ob_s, e272, e272, e272]
      by_cases q : k = 10
      · rw [if_pos q, if_pos q]
      · rw [if_neg q, if_neg q]
        by_cases q' : t = 0
        · rw [if_pos q', if_pos q']
        · rw [if_neg q', if_neg q']
    have hk9 : (9 : Int32) < k ∧ ¬ k = 13 := by
      rcases hf with rfl | rfl | rfl | ⟨rfl | rfl, -⟩ <;> decide
    have elen : (jnS k a b' :: r).length = r.length + 1 := rfl
    rw [if_pos hk9.1, if_neg hk9.2, el, nsub1 (by omega), npred (by omega), show r.length + 2 - 1 - 1 = r.length by omega, show r.length + 2 - 1 = r.length + 1 by omega, r59_16 s', ob_s, gd_d (k67 s'), l67 s', ix_t (by omega) (by omega), gd_t, ob_s, gd_d (k67 s'), l67 s', ix_t (show r.length + 1 < 400 by omega) (by omega), gd_t, ncl (by omega), ncl (by omega), stH_e, m1, m2, e237, e237, q2, elen]
    rcases hf with rfl | rfl | rfl | ⟨rfl | rfl, -⟩
    · rw [if_neg (by decide), if_neg (by decide), if_neg (by decide)]
      by_cases q : a + b' ≤ 0
      · rw [if_pos q]; rfl
      · rw [if_neg q]; rfl
    · rw [if_pos rfl]
      show _ = some (Sum.inl (nI (r.length + 1), nI (x + 1), stH h 67 (va_up M r.length (bI (decide (a < b'))))))
      by_cases q : a < b'
      · rw [if_neg (Int32.not_le.mpr q), decide_eq_true q]; rfl
      · rw [if_pos (Int32.not_lt.mp q), decide_eq_false q]; rfl
    · rw [if_neg (by decide), if_pos rfl]
      show _ = some (Sum.inl (nI (r.length + 1), nI (x + 1), stH h 67 (va_up M r.length (bI (decide (b' < a))))))
      by_cases q : b' < a
      · rw [if_neg (Int32.not_le.mpr q), decide_eq_true q]; rfl
      · rw [if_pos (Int32.not_lt.mp q), decide_eq_false q]; rfl
    · rw [if_neg (by decide), if_neg (by decide), if_pos rfl]
      show _ = some (Sum.inl (nI (r.length + 1), nI (x + 1), stH h 67 (va_up M r.length (bI (decide (a + b' = 2))))))
      by_cases q : a + b' = 2
      · rw [if_pos q, decide_eq_true q]; rfl
      · rw [if_neg q, decide_eq_false q]; rfl
    · rw [if_neg (by decide), if_neg (by decide), if_neg (by decide)]
      show _ = some (Sum.inl (nI (r.length + 1), nI (x + 1), stH h 67 (va_up M r.length (bI (decide (0 < a + b'))))))
      by_cases q : 0 < a + b'
      · rw [if_neg (Int32.not_le.mpr q), decide_eq_true q]; rfl
      · rw [if_pos (Int32.not_lt.mp q), decide_eq_false q]; rfl
end MET
