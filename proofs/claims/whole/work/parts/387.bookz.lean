/-! THE CALL book -/
section BOOKZ
variable {h : Hp} {n : Nat}
/-- a new book in the world -/
theorem Inv_book {f f2 : Nat → Int32} (i : Inv f) {m : Nat} (hm : m ≤ 20) (e4 : f2 4 = nI m) (e : ∀ k, k ≠ 4 → (k < 71 ∨ 131 ≤ k) → f2 k = f k) (bk : ∀ j, j < m → (∃ x, x < 1000 ∧ f2 (71 + 3 * j) = nI x) ∧ (∃ g, g < nG f ∧ f2 (72 + 3 * j) = nI g) ∧ (∃ r, r < nR f ∧ f2 (73 + 3 * j) = nI r)) : Inv f2 := by
  have eR : nR f2 = nR f := by unfold nR; rw [e 0 (by omega) (by omega)]
  have eG : nG f2 = nG f := by unfold nG; rw [e 1 (by omega) (by omega)]
  have eT : nT f2 = nT f := by unfold nT; rw [e 2 (by omega) (by omega)]
  have eX : nX f2 = nX f := by unfold nX; rw [e 3 (by omega) (by omega)]
  have eB : nB f2 = m := by unfold nB; rw [e4, ncl (by omega)]
  have eD : nD f2 = nD f := by unfold nD; rw [e 5 (by omega) (by omega)]
  have eS : sR f2 = sR f := by unfold sR; rw [e 6 (by omega) (by omega)]
  have r8 := iR8 i
  have g5 := iG5 i
  have t6 := iT6 i
  unfold Inv
  rw [eR, eG, eT, eX, eB, eD, eS, e 0 (by omega) (by omega), e 1 (by omega) (by omega), e 2 (by omega) (by omega), e 3 (by omega) (by omega), e4, e 5 (by omega) (by omega), e 6 (by omega) (by omega), e 7 (by omega) (by omega), e 8 (by omega) (by omega), e 9 (by omega) (by omega)]
  refine ⟨i.1, i.2.1, i.2.2.1, i.2.2.2.1, ⟨rfl, hm⟩, i.2.2.2.2.2.1, iSr i, i7 i, i8 i, i9 i, fun r hr => ?_, fun g hg => ?_, fun t ht => ?_, fun b hb => ?_⟩
  · rw [e _ (by omega) (by omega), e _ (by omega) (by omega), e _ (by omega) (by omega), e _ (by omega) (by omega)]
    exact irm i r hr
  · have es : sit f2 g = sit f g := by unfold sit; rw [e _ (by omega) (by omega)]
    rw [es, e _ (by omega) (by omega), e _ (by omega) (by omega)]
    exact igs i g hg
  · have es : tin f2 t = tin f t := by unfold tin; rw [e _ (by omega) (by omega)]
    rw [es, e _ (by omega) (by omega), e _ (by omega) (by omega), e _ (by omega) (by omega)]
    exact itr i t ht
  · obtain ⟨⟨x, x1, x2⟩, b2, b3⟩ := bk b hb
    refine ⟨?_, b2, b3⟩
    rw [x2]
    unfold bw
    rw [nI_toInt (by omega)]
    omega
theorem HR_book {I J : Nat → Nat → Int32} {f f2 : Nat → Int32} (i : Inv f) (c : HR I 3 f) {m : Nat} (hm : m ≤ 20) (e4 : f2 4 = nI m) (e : ∀ k, k ≠ 4 → (k < 71 ∨ 131 ≤ k) → f2 k = f k) (eJ : ∀ a, (a < 15 ∨ 18 < a) → 3 ≤ a → a < 36 → J a = I a) (j0 : J 15 0 = nI m) (bk : ∀ j, j < m → J 16 j = f2 (71 + 3 * j) ∧ J 17 j = f2 (72 + 3 * j) ∧ J 18 j = f2 (73 + 3 * j)) : HR J 3 f2 := by
  have eB : nB f2 = m := by unfold nB; rw [e4, ncl (by omega)]
  have eG : nG f2 = nG f := by unfold nG; rw [e 1 (by omega) (by omega)]
  have g5 := iG5 i
  obtain ⟨c1, c2, c3, c4, c5, c6, c7⟩ := c
  unfold HR
  rw [eB, eG]
  refine ⟨?_, fun r hr => ?_, fun g hg => ?_, fun t ht => ?_, fun k hk => ?_, fun b hb => ?_, fun g hg => ?_⟩
  · obtain ⟨d0, d1, d2, d3, -, d5, d6, d7, d8, d9, d10⟩ := c1
    rw [eJ 3 (by omega) (by omega) (by omega), eJ (3 + 8) (by omega) (by omega) (by omega), e 0 (by omega) (by omega), e 1 (by omega) (by omega), e 2 (by omega) (by omega), e 3 (by omega) (by omega), e4, e 5 (by omega) (by omega), e 6 (by omega) (by omega), e 7 (by omega) (by omega), e 8 (by omega) (by omega), e 9 (by omega) (by omega), e 10 (by omega) (by omega)]
    exact ⟨d0, d1, d2, d3, j0, d5, d6, d7, d8, d9, d10⟩
  · rw [eJ (3 + 1) (by omega) (by omega) (by omega), eJ (3 + 2) (by omega) (by omega) (by omega), eJ (3 + 3) (by omega) (by omega) (by omega), eJ (3 + 4) (by omega) (by omega) (by omega), e _ (by omega) (by omega), e _ (by omega) (by omega), e _ (by omega) (by omega), e _ (by omega) (by omega)]
    exact c2 r hr
  · rw [eJ (3 + 5) (by omega) (by omega) (by omega), eJ (3 + 6) (by omega) (by omega) (by omega), e _ (by omega) (by omega), e _ (by omega) (by omega)]
    exact c3 g hg
  · rw [eJ (3 + 9) (by omega) (by omega) (by omega), eJ (3 + 10) (by omega) (by omega) (by omega), eJ (3 + 11) (by omega) (by omega) (by omega), e _ (by omega) (by omega), e _ (by omega) (by omega), e _ (by omega) (by omega)]
    exact c4 t ht
  · rw [eJ (3 + 16) (by omega) (by omega) (by omega), eJ (3 + 17) (by omega) (by omega) (by omega), e _ (by omega) (by omega), e _ (by omega) (by omega)]
    exact c5 k hk
  · exact bk b hb
  · rw [eJ (3 + 18 + 3 * g) (by omega) (by omega) (by omega), eJ (3 + 19 + 3 * g) (by omega) (by omega) (by omega)]
    exact WR_congr rfl rfl (fun _ _ => rfl) (fun k hk => e _ (by omega) (by omega)) (c7 g hg)
theorem bk_ok (g : GS h) (hn : n ≤ 400) (e11 : zI h 1 1 = nI n) {J' : Nat → Nat → Int32} {q' i' : Nat} {t' : Int32} (e : F_X7_readLines_k0 41 1 3 20 h = some (1, cT h (zI h 2) n J' (zI h 1) q' t' (-1))) (e0 : J' 41 0 = nI i') (hi : i' ≤ 20) (fr : ∀ a, (a < 41 ∨ 44 < a) → J' a = up2 (zI h) 41 0 0 a) : JB h (F_L_book 0 72) (F_X12_book 59) := by
  have g0 := g
  obtain ⟨s, i, c, t, -⟩ := g
  have fr2 : ∀ a, (a < 41 ∨ 44 < a) → J' a = zI h a := fun a ha => by rw [fr a ha, up2_a _ _ _ _ _ (by omega)]
  have cl := bk_c1 s e e0
  have kf : ∀ a, a ≠ 1 → (a < 15 ∨ 18 < a) → (a < 41 ∨ 44 < a) → rBk (va_up J' 1 (va_up (tF (zI h 2) n (zI h 1) q' t' (-1)) 1 0)) 15 41 a = zI h a := fun a h1 h2 ha => by
    rw [rBk_o h2, va_n _ _ _ _ h1]
    exact fr2 a ha
  have k1' : rBk (va_up J' 1 (va_up (tF (zI h 2) n (zI h 1) q' t' (-1)) 1 0)) 15 41 1 = va_up (tF (zI h 2) n (zI h 1) q' t' (-1)) 1 0 := by rw [rBk_o (by omega), va_e]
  have j0 : rBk (va_up J' 1 (va_up (tF (zI h 2) n (zI h 1) q' t' (-1)) 1 0)) 15 41 15 0 = nI i' := by
    rw [rBk_0, va_n _ _ _ _ (by decide)]
    exact e0
  have j1 : ∀ j, j < 20 → rBk (va_up J' 1 (va_up (tF (zI h 2) n (zI h 1) q' t' (-1)) 1 0)) 15 41 16 j = J' 42 j := fun j hj => by rw [rBk_1 hj, va_n _ _ _ _ (by decide)]
  have j2 : ∀ j, j < 20 → rBk (va_up J' 1 (va_up (tF (zI h 2) n (zI h 1) q' t' (-1)) 1 0)) 15 41 17 j = J' 43 j := fun j hj => by rw [rBk_2 hj, va_n _ _ _ _ (by decide)]
  have j3 : ∀ j, j < 20 → rBk (va_up J' 1 (va_up (tF (zI h 2) n (zI h 1) q' t' (-1)) 1 0)) 15 41 18 j = J' 44 j := fun j hj => by rw [rBk_3 hj, va_n _ _ _ _ (by decide)]
  generalize rBk (va_up J' 1 (va_up (tF (zI h 2) n (zI h 1) q' t' (-1)) 1 0)) 15 41 = K at cl kf k1' j0 j1 j2 j3
  have hG : va_up (K 59) 0 0 6 = nI n := by
    rw [va_o _ _ (by decide), kf 59 (by decide) (by omega) (by omega), ← t.2.1]
    exact e11
  rcases bk_txt s i c hn e11 (K := K) (G := va_up (K 59) 0 0) (kf 60 (by decide) (by omega) (by omega)) (fun k hk => by rw [kf 63 (by decide) (by omega) (by omega)]; exact (t.1 k hk).symm) hG with ⟨f2, q2, J2, t2, K2, G2, p2, a1, a2, a3⟩ | ⟨i2, q2, J2, t2, K2, G2, p2, g2, a1, a2, hi2, a3⟩
  · rw [e] at a1
    have x : (1 : Int32) = 0 := congrArg Prod.fst (Option.some.inj a1)
    exact absurd x (by decide)
  · rw [e] at a1
    have hq := (cT_inj (congrArg Prod.snd (Option.some.inj a1))).1
    obtain ⟨-, -, b0, b1, -, b3, vals⟩ := a3
    have ei : i2 = i' := by
      rw [← hq 41 (by decide), e0] at b0
      exact ((nI_eq (by omega) (by omega)).mp b0).symm
    subst ei
    have sM : Sh (setL h 72 0 (nI i2).toInt64) := s
    have rf := bk_r1 sM hi2 (a2 _ sM)
    have n59 : ∀ a, a ≠ 1 → (a < 15 ∨ 18 < a) → (a < 41 ∨ 44 < a) → a ≠ 59 → a ≠ 60 → a ≠ 65 → va_up (pgK (up2 K2 60 4 (nI i2)) (3 * i2)) 59 (va_up (rF G2 p2 g2) 11 (-1)) a = zI h a := fun a h1 h2 h3 h4 h5 h6 => by
      rw [va_n _ _ _ _ h4, pgK_o _ _ h5, up2_a _ _ _ _ _ h5, b3 a h6, kf a h1 h2 h3]
    have nK : ∀ a, a ≠ 59 → a ≠ 60 → a ≠ 65 → va_up (pgK (up2 K2 60 4 (nI i2)) (3 * i2)) 59 (va_up (rF G2 p2 g2) 11 (-1)) a = K a := fun a h4 h5 h6 => by
      rw [va_n _ _ _ _ h4, pgK_o _ _ h5, up2_a _ _ _ _ _ h5, b3 a h6]
    have n60 : ∀ k, va_up (pgK (up2 K2 60 4 (nI i2)) (3 * i2)) 59 (va_up (rF G2 p2 g2) 11 (-1)) 60 k = if 71 ≤ k ∧ k < 71 + 3 * i2 then K2 65 (k - 71) else up2 K2 60 4 (nI i2) 60 k := fun k => by
      rw [va_n _ _ _ _ (by decide), pgK_60, up2_a _ _ _ _ _ (by decide)]
    have x59 : va_up (pgK (up2 K2 60 4 (nI i2)) (3 * i2)) 59 (va_up (rF G2 p2 g2) 11 (-1)) 59 = va_up (rF G2 p2 g2) 11 (-1) := va_e _ _ _
    have e60 : K2 60 = zI h 60 := by rw [b3 60 (by decide), kf 60 (by decide) (by omega) (by omega)]
    refine ⟨0, _, 0, 0, nI i2, _, cl, rf, k59 s, ?_, fun _ => ?_, ?_, ?_, ?_⟩
    · rw [rfS_1, va_o _ _ (by decide), rF_o (by decide) (by decide), b1]
      rfl
    · show zL (setL h 72 0 (nI i2).toInt64) 72 0 = _
      simp [setL, zL, up2, va_up]
    · have gs : GS (wI h (va_up (pgK (up2 K2 60 4 (nI i2)) (3 * i2)) 59 (va_up (rF G2 p2 g2) 11 (-1)))) := by
        generalize va_up (pgK (up2 K2 60 4 (nI i2)) (3 * i2)) 59 (va_up (rF G2 p2 g2) 11 (-1)) = JF at n59 nK n60 x59
        have f4 : JF 60 4 = nI i2 := by rw [n60, if_neg (by omega), up2_e]
        have fo : ∀ k, k ≠ 4 → (k < 71 ∨ 131 ≤ k) → JF 60 k = zI h 60 k := fun k h4 hk => by
          rw [n60, if_neg (by omega), up2_k _ _ _ _ _ h4, e60]
        have fb : ∀ j, j < i2 → JF 60 (71 + 3 * j) = K2 65 (3 * j) ∧ JF 60 (72 + 3 * j) = K2 65 (3 * j + 1) ∧ JF 60 (73 + 3 * j) = K2 65 (3 * j + 2) := fun j hj => by
          rw [n60, n60, n60, if_pos (by omega), if_pos (by omega), if_pos (by omega), show 71 + 3 * j - 71 = 3 * j by omega, show 72 + 3 * j - 71 = 3 * j + 1 by omega, show 73 + 3 * j - 71 = 3 * j + 2 by omega]
          exact ⟨rfl, rfl, rfl⟩
        have k60' : K 60 = zI h 60 := kf 60 (by decide) (by omega) (by omega)
        refine GS_c g0 ?_ ?_ ?_ ?_
        · refine Inv_book i hi2 f4 fo (fun j hj => ?_)
          obtain ⟨⟨x1, y1, z1, w1⟩, ⟨x2, y2, z2, w2⟩, ⟨x3, y3, z3, w3⟩⟩ := vals j hj
          obtain ⟨v1, v2, v3⟩ := fb j hj
          rw [k60'] at y2 y3
          exact ⟨⟨x1, y1, v1.trans w1⟩, ⟨x2, y2, v2.trans w2⟩, ⟨x3, y3, v3.trans w3⟩⟩
        · refine HR_book i c hi2 f4 fo (fun a h1 h3 h2 => n59 a (by omega) h1 (by omega) (by omega) (by omega) (by omega)) ?_ (fun j hj => ?_)
          · rw [nK 15 (by decide) (by decide) (by decide)]
            exact j0
          · obtain ⟨⟨x1, y1, z1, w1⟩, ⟨x2, y2, z2, w2⟩, ⟨x3, y3, z3, w3⟩⟩ := vals j hj
            obtain ⟨v1, v2, v3⟩ := fb j hj
            rw [nK 16 (by decide) (by decide) (by decide), nK 17 (by decide) (by decide) (by decide), nK 18 (by decide) (by decide) (by decide), j1 j (by omega), j2 j (by omega), j3 j (by omega), hq 42 (by decide), hq 43 (by decide), hq 44 (by decide), v1, v2, v3, z1, z2, z3, w1, w2, w3]
            exact ⟨rfl, rfl, rfl⟩
        · unfold TP
          rw [n59 2 (by decide) (by omega) (by omega) (by decide) (by decide) (by decide), n59 63 (by decide) (by omega) (by omega) (by decide) (by decide) (by decide), nK 1 (by decide) (by decide) (by decide), k1', x59]
          refine ⟨t.1, ?_, ?_, 0, by omega, ?_⟩
          · rw [va_e, va_o _ _ (by decide), rF_o (by decide) (by decide), b1]
            rfl
          · rw [va_o _ _ (by decide), tF_6, va_e]
          · rw [va_e]
            rfl
        · intro a k ha _ _
          rcases ha with rfl | ha | ⟨rfl, rfl⟩
          · rw [n59 61 (by decide) (by omega) (by omega) (by decide) (by decide) (by decide)]
          · rw [n59 a (by omega) (by omega) (by omega) (by omega) (by omega) (by omega)]
          · rw [x59, va_o _ _ (by decide), rF_o (by decide) (by decide), b1]
            unfold gB
            rw [va_o _ _ (by decide), va_o _ _ (by decide), va_o _ _ (by decide), va_o _ _ (by decide), kf 59 (by decide) (by omega) (by omega)]
      exact GS_L gs
    · show 0 + potC h ≤ potC h + 1
      omega
    · show 0 + potS h ≤ potS h + 6
      omega
theorem j_book (g : GS h) : JB h (F_L_book 0 72) (F_X12_book 59) := by
  have g0 := g
  obtain ⟨s, i, c, t, -⟩ := g
  obtain ⟨n, hn, e11⟩ := t.2.2.2
  rcases bk_txt s i c hn e11 (K := zI h) (G := zI h 59) rfl (fun k hk => (t.1 k hk).symm) (by rw [← t.2.1]; exact e11) with ⟨f2, q2, J2, t2, K2, G2, p2, a1, a2, a3⟩ | ⟨i2, q2, J2, t2, K2, G2, p2, g2, a1, a2, hi2, a3⟩
  · exact bk_fail g0 hn e11 a1 a3.2.1
  · exact bk_ok g0 hn e11 a1 a3.2.2.1 hi2 a3.2.2.2.2.1
end BOOKZ
