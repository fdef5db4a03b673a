/-! THE CALL wishes -/
section WJOINT
variable {h : Hp} {n : Nat} {v : Int32}
/-- what Inv looks at -/
theorem Inv_147 {f f2 : Nat → Int32} (i : Inv f) (e : ∀ k, k < 147 → f2 k = f k) : Inv f2 := by
  have eR : nR f2 = nR f := by unfold nR; rw [e 0 (by omega)]
  have eG : nG f2 = nG f := by unfold nG; rw [e 1 (by omega)]
  have eT : nT f2 = nT f := by unfold nT; rw [e 2 (by omega)]
  have eX : nX f2 = nX f := by unfold nX; rw [e 3 (by omega)]
  have eB : nB f2 = nB f := by unfold nB; rw [e 4 (by omega)]
  have eD : nD f2 = nD f := by unfold nD; rw [e 5 (by omega)]
  have eS : sR f2 = sR f := by unfold sR; rw [e 6 (by omega)]
  have r8 := iR8 i
  have g5 := iG5 i
  have t6 := iT6 i
  have b20 := iB20 i
  unfold Inv
  rw [eR, eG, eT, eX, eB, eD, eS, e 0 (by omega), e 1 (by omega), e 2 (by omega), e 3 (by omega), e 4 (by omega), e 5 (by omega), e 6 (by omega), e 7 (by omega), e 8 (by omega), e 9 (by omega)]
  refine ⟨i.1, i.2.1, i.2.2.1, i.2.2.2.1, i.2.2.2.2.1, i.2.2.2.2.2.1, iSr i, i7 i, i8 i, i9 i, fun r hr => ?_, fun g hg => ?_, fun t ht => ?_, fun b hb => ?_⟩
  · rw [e _ (by omega), e _ (by omega), e _ (by omega), e _ (by omega)]
    exact irm i r hr
  · have es : sit f2 g = sit f g := by unfold sit; rw [e _ (by omega)]
    rw [es, e _ (by omega), e _ (by omega)]
    exact igs i g hg
  · have es : tin f2 t = tin f t := by unfold tin; rw [e _ (by omega)]
    rw [es, e _ (by omega), e _ (by omega), e _ (by omega)]
    exact itr i t ht
  · rw [e _ (by omega), e _ (by omega), e _ (by omega)]
    exact ibk i b hb
/-- a guest's wishes are others -/
theorem HR_wish {I J : Nat → Nat → Int32} {f f2 : Nat → Int32} (i : Inv f) (c : HR I 3 f) {gq : Nat} (hg : gq < 5) (e : ∀ k, k < 4232 → (k < 147 + 817 * gq ∨ 147 + 817 * gq + 817 ≤ k) → f2 k = f k) (eJ : ∀ a, 3 ≤ a → a < 36 → a ≠ 21 + 3 * gq → a ≠ 22 + 3 * gq → J a = I a) (w : WR (J (21 + 3 * gq)) (J (22 + 3 * gq)) (fun k => f2 (147 + 817 * gq + k))) : HR J 3 f2 := by
  have eB : nB f2 = nB f := by unfold nB; rw [e 4 (by omega) (by omega)]
  have eG : nG f2 = nG f := by unfold nG; rw [e 1 (by omega) (by omega)]
  have g5 := iG5 i
  have b20 := iB20 i
  have eJ0 : ∀ a, a < 18 → J (3 + a) = I (3 + a) := fun a ha => eJ _ (by omega) (by omega) (by omega) (by omega)
  obtain ⟨c1, c2, c3, c4, c5, c6, c7⟩ := c
  unfold HR
  rw [show J 3 = I 3 from eJ0 0 (by omega), eJ0 8 (by omega), eJ0 12 (by omega), eJ0 1 (by omega), eJ0 2 (by omega), eJ0 3 (by omega), eJ0 4 (by omega), eJ0 5 (by omega), eJ0 6 (by omega), eJ0 9 (by omega), eJ0 10 (by omega), eJ0 11 (by omega), eJ0 13 (by omega), eJ0 14 (by omega), eJ0 15 (by omega), eJ0 16 (by omega), eJ0 17 (by omega), eB, eG, e 0 (by omega) (by omega), e 1 (by omega) (by omega), e 2 (by omega) (by omega), e 3 (by omega) (by omega), e 4 (by omega) (by omega), e 5 (by omega) (by omega), e 6 (by omega) (by omega), e 7 (by omega) (by omega), e 8 (by omega) (by omega), e 9 (by omega) (by omega), e 10 (by omega) (by omega)]
  refine ⟨c1, fun r hr => ?_, fun g hg => ?_, fun t ht => ?_, fun k hk => ?_, fun b hb => ?_, fun g hg2 => ?_⟩
  · rw [e _ (by omega) (by omega), e _ (by omega) (by omega), e _ (by omega) (by omega), e _ (by omega) (by omega)]
    exact c2 r hr
  · rw [e _ (by omega) (by omega), e _ (by omega) (by omega)]
    exact c3 g hg
  · rw [e _ (by omega) (by omega), e _ (by omega) (by omega), e _ (by omega) (by omega)]
    exact c4 t ht
  · rw [e _ (by omega) (by omega), e _ (by omega) (by omega)]
    exact c5 k hk
  · rw [e _ (by omega) (by omega), e _ (by omega) (by omega), e _ (by omega) (by omega)]
    exact c6 b hb
  · by_cases q : g = gq
    · subst q
      exact w
    · rw [eJ (3 + 18 + 3 * g) (by omega) (by omega) (by omega) (by omega), eJ (3 + 19 + 3 * g) (by omega) (by omega) (by omega) (by omega)]
      exact WR_congr rfl rfl (fun _ _ => rfl) (fun k hk => e _ (by omega) (by omega)) (c7 g hg2)
theorem ws_none (g : GS h) (iv : isIn v (nG (zI h 60)) = false) : JB h (F_L_wishes 0 v 72) (F_X12_wishes 59 v) := by
  have g0 := g
  obtain ⟨s, i, c, t, -⟩ := g
  have cl := ws_cn s i c iv
  have e60 : up2 (zI h) 1 1 0 60 = zI h 60 := up2_a _ _ _ _ _ (by decide)
  have rf := wr_n (v := v) (K := up2 (zI h) 1 1 0) s (by rw [e60]; exact i) (by rw [e60]; exact iv)
  have n0 : ∀ a, a ≠ 1 → a ≠ 59 → up2 (up2 (up2 (up2 (zI h) 1 1 0) 59 0 0) 59 0 1) 59 6 0 a = zI h a := fun a h1 h2 => by
    rw [up2_a _ _ _ _ _ h2, up2_a _ _ _ _ _ h2, up2_a _ _ _ _ _ h2, up2_a _ _ _ _ _ h1]
  have n59 : ∀ k, k ≠ 0 → k ≠ 6 → up2 (up2 (up2 (up2 (zI h) 1 1 0) 59 0 0) 59 0 1) 59 6 0 59 k = zI h 59 k := fun k h1 h2 => by
    rw [up2_k _ _ _ _ _ h2, up2_k _ _ _ _ _ h1, up2_k _ _ _ _ _ h1, up2_a _ _ _ _ _ (by decide)]
  have n1 : ∀ k, up2 (up2 (up2 (up2 (zI h) 1 1 0) 59 0 0) 59 0 1) 59 6 0 1 k = up2 (zI h) 1 1 0 1 k := fun k => by
    rw [up2_a _ _ _ _ _ (by decide), up2_a _ _ _ _ _ (by decide), up2_a _ _ _ _ _ (by decide)]
  refine ⟨1, _, 1, 6, 0, _, cl, rf, k59 s, ?_, fun q => absurd q (by decide), ?_, ?_, ?_⟩
  · rw [wI_I, up2_k _ _ _ _ _ (by decide), up2_e]
  · refine GS_same g0 (fun k _ => by rw [n0 60 (by decide) (by decide)]) (fun a h1 h2 => n0 a (by omega) (by omega)) (n0 63 (by decide) (by decide)) (fun a ha => n0 a (by omega) (by omega)) (n59 4 (by decide) (by decide)) ?_ (up2_e _ _ _ _) ?_
    · rw [n1, up2_e]
    · rw [n1, n59 11 (by decide) (by decide), up2_k _ _ _ _ _ (by decide)]
      exact t.2.2.1
  · show 1 + potC h ≤ potC h + 1
    omega
  · show 6 + potS h ≤ potS h + 6
    omega
theorem ws_fail (g : GS h) (hn : n ≤ 400) (e11 : zI h 1 1 = nI n) (iv : isIn v (nG (zI h 60)) = true) {J' : Nat → Nat → Int32} {q' f : Nat} {t' : Int32} (e : F_X7_readLines_k9 38 1 3 8 (wI h (zsJ h)) = some (0, cT h (zI h 2) n J' (zI h 1) q' t' (nI f))) (fr : ∀ a, a ≠ 38 → a ≠ 39 → J' a = zI h a) : JB h (F_L_wishes 0 v 72) (F_X12_wishes 59 v) := by
  have g0 := g
  obtain ⟨s, i, c, t, -⟩ := g
  have cl := ws_c0 s i c iv e
  have kf : ∀ a, a ≠ 1 → a ≠ 38 → a ≠ 39 → usJ h n J' q' t' (nI f) a = zI h a := fun a h1 h2 h3 => by rw [usJ_o h1, fr a h2 h3]
  have k11 : usJ h n J' q' t' (nI f) 1 1 = 0 := by rw [usJ_1, va_e]
  have k16 : usJ h n J' q' t' (nI f) 1 6 = nI f := by rw [usJ_1, va_o _ _ (by decide), tF_6]
  generalize usJ h n J' q' t' (nI f) = K at cl kf k11 k16
  have hG : va_up (K 59) 0 0 6 = nI n := by
    rw [va_o _ _ (by decide), kf 59 (by decide) (by decide) (by decide), ← t.2.1]
    exact e11
  have c60 : K 60 = zI h 60 := kf 60 (by decide) (by decide) (by decide)
  rcases ws_txt s hn e11 (K := K) (G := va_up (K 59) 0 0) (fun k hk => by rw [kf 63 (by decide) (by decide) (by decide)]; exact (t.1 k hk).symm) hG with ⟨f2, q2, J2, t2, K2, G2, p2, a1, a2, a3⟩ | ⟨i2, q2, J2, t2, K2, G2, p2, g2, a1, a2, -, -⟩
  · rw [e] at a1
    have hq : nI f = nI f2 := (cT_inj (congrArg Prod.snd (Option.some.inj a1))).2
    obtain ⟨b1, b2, b3, b4⟩ := a3
    have rf := wr_0 s (by rw [c60]; exact i) (by rw [c60]; exact iv) (a2 h s)
    rw [← hq] at rf
    have n0 : ∀ a, a ≠ 1 → a ≠ 38 → a ≠ 39 → a ≠ 59 → a ≠ 60 → va_up K2 59 (va_up (va_up (rF G2 p2 f2) 11 (nI f)) 0 2) a = zI h a := fun a h1 h2 h3 h4 h5 => by
      rw [va_n _ _ _ _ h4, b2 a h5, kf a h1 h2 h3]
    have n1 : va_up K2 59 (va_up (va_up (rF G2 p2 f2) 11 (nI f)) 0 2) 1 = K 1 := by rw [va_n _ _ _ _ (by decide), b2 1 (by decide)]
    have n59 : va_up K2 59 (va_up (va_up (rF G2 p2 f2) 11 (nI f)) 0 2) 59 = va_up (va_up (rF G2 p2 f2) 11 (nI f)) 0 2 := va_e _ _ _
    refine ⟨2, wI h K, 1, 6, 0, _, cl, rf, k59 s, ?_, fun q => absurd q (by decide), ?_, ?_, ?_⟩
    · rw [rfS_1, va_e]
    · show GS (wI h (va_up K2 59 (va_up (va_up (rF G2 p2 f2) 11 (nI f)) 0 2)))
      refine GS_same g0 (fun k hk => ?_) (fun a h1 h2 => n0 a (by omega) (by omega) (by omega) (by omega) (by omega)) (n0 63 (by decide) (by decide) (by decide) (by decide) (by decide)) (fun a ha => n0 a (by omega) (by omega) (by omega) (by omega) (by omega)) ?_ ?_ ?_ ?_
      · rw [va_n _ _ _ _ (by decide), b3 k hk, c60]
      · rw [n59, va_o _ _ (by decide), va_o _ _ (by decide), rF_o (by decide) (by decide), b4 4 (by decide) (by decide), gB_4, va_o _ _ (by decide), kf 59 (by decide) (by decide) (by decide)]
      · rw [n1]
        exact k11
      · rw [n59, va_o _ _ (by decide), va_o _ _ (by decide), rF_o (by decide) (by decide), b4 6 (by decide) (by decide), gB_6]
      · rw [n1, n59, k16, va_o _ _ (by decide), va_e]
    · show 1 + potC h ≤ potC h + 1
      omega
    · show 6 + potS h ≤ potS h + 6
      omega
  · rw [e] at a1
    have x : (0 : Int32) = 1 := congrArg Prod.fst (Option.some.inj a1)
    exact absurd x (by decide)
theorem ws_ok (g : GS h) (hn : n ≤ 400) (e11 : zI h 1 1 = nI n) {gq : Nat} (hg : gq < nG (zI h 60)) {J' : Nat → Nat → Int32} {q' i' : Nat} {t' : Int32} (e : F_X7_readLines_k9 38 1 3 8 (wI h (zsJ h)) = some (1, cT h (zI h 2) n J' (zI h 1) q' t' (-1))) (e0 : J' 38 0 = nI i') (hi : i' ≤ 8) (fr : ∀ a, a ≠ 38 → a ≠ 39 → J' a = zI h a) : JB h (F_L_wishes 0 (nI gq) 72) (F_X12_wishes 59 (nI gq)) := by
  have g0 := g
  obtain ⟨s, i, c, t, -⟩ := g
  have g5 := iG5 i
  have cl := ws_c1 s i c hg e e0
  have kf : ∀ a, a ≠ 1 → a ≠ 38 → a ≠ 39 → a ≠ 21 + 3 * gq → a ≠ 22 + 3 * gq → cwJ (usJ h n J' q' t' (-1)) (21 + 3 * gq) a = zI h a := fun a h1 h2 h3 h4 h5 => by rw [cwJ_o h4 (by omega), usJ_o h1, fr a h2 h3]
  have k1' : cwJ (usJ h n J' q' t' (-1)) (21 + 3 * gq) 1 = va_up (tF (zI h 2) n (zI h 1) q' t' (-1)) 1 0 := by rw [cwJ_o (by omega) (by omega), usJ_1]
  have w0 : cwJ (usJ h n J' q' t' (-1)) (21 + 3 * gq) (21 + 3 * gq) 0 = J' 38 0 := by rw [cwJ_0, usJ_o (by decide)]
  have w3 : cwJ (usJ h n J' q' t' (-1)) (21 + 3 * gq) (21 + 3 * gq) 3 = J' 38 3 := by rw [cwJ_3 (by omega), usJ_o (by decide)]
  have wc : ∀ k, k < 400 → cwJ (usJ h n J' q' t' (-1)) (21 + 3 * gq) (22 + 3 * gq) k = J' 39 k := fun k hk => by rw [show 22 + 3 * gq = 21 + 3 * gq + 1 by omega, cwJ_c (by omega) hk, usJ_o (by decide)]
  generalize cwJ (usJ h n J' q' t' (-1)) (21 + 3 * gq) = K at cl kf k1' w0 w3 wc
  have hG : va_up (K 59) 0 0 6 = nI n := by
    rw [va_o _ _ (by decide), kf 59 (by decide) (by decide) (by decide) (by omega) (by omega), ← t.2.1]
    exact e11
  have c60 : K 60 = zI h 60 := kf 60 (by decide) (by decide) (by decide) (by omega) (by omega)
  rcases ws_txt s hn e11 (K := K) (G := va_up (K 59) 0 0) (fun k hk => by rw [kf 63 (by decide) (by decide) (by decide) (by omega) (by omega)]; exact (t.1 k hk).symm) hG with ⟨f2, q2, J2, t2, K2, G2, p2, a1, a2, a3⟩ | ⟨i2, q2, J2, t2, K2, G2, p2, g2, a1, a2, hi2, x, a3⟩
  · rw [e] at a1
    have x : (1 : Int32) = 0 := congrArg Prod.fst (Option.some.inj a1)
    exact absurd x (by decide)
  · rw [e] at a1
    have hq := (cT_inj (congrArg Prod.snd (Option.some.inj a1))).1
    obtain ⟨-, -, ⟨b1, b2, b3, b4⟩, st, -, -, -, -, wr⟩ := a3
    have m0 : va_up (dK K2) 0 (nI i2) 0 = nI i2 := va_e _ _ _
    have ei : i2 = i' := by
      have := wr.2.1
      rw [← hq 38 (by decide), e0, m0] at this
      exact ((nI_eq (by omega) (by omega)).mp this).symm
    subst ei
    rw [← hq 38 (by decide), ← hq 39 (by decide)] at wr
    have sM : Sh (setL h 72 0 (nI i2).toInt64) := s
    have rf := wr_1 sM (by rw [c60]; exact i) (by rw [c60]; exact hg) (by omega) (a2 _ sM)
    have n0 : ∀ a, a ≠ 59 → a ≠ 60 → va_up (wgK (up2 K2 60 4232 (nI i2)) (147 + 817 * gq) 817) 59 (va_up (rF G2 p2 g2) 11 (-1)) a = K a := fun a h4 h5 => by
      rw [va_n _ _ _ _ h4, wgK_o _ _ _ h5, up2_a _ _ _ _ _ h5, b2 a h5]
    have n59 : va_up (wgK (up2 K2 60 4232 (nI i2)) (147 + 817 * gq) 817) 59 (va_up (rF G2 p2 g2) 11 (-1)) 59 = va_up (rF G2 p2 g2) 11 (-1) := va_e _ _ _
    have n60 : ∀ k, k < 4232 → (k < 147 + 817 * gq ∨ 147 + 817 * gq + 817 ≤ k) → va_up (wgK (up2 K2 60 4232 (nI i2)) (147 + 817 * gq) 817) 59 (va_up (rF G2 p2 g2) 11 (-1)) 60 k = zI h 60 k := fun k hk h2 => by
      rw [va_n _ _ _ _ (by decide), wgK_60, if_neg (by omega), up2_k _ _ _ _ _ (by omega), b3 k hk, c60]
    have nw : ∀ k, k < 817 → va_up (wgK (up2 K2 60 4232 (nI i2)) (147 + 817 * gq) 817) 59 (va_up (rF G2 p2 g2) 11 (-1)) 60 (147 + 817 * gq + k) = va_up (dK K2) 0 (nI i2) k := fun k hk => by
      rw [va_n _ _ _ _ (by decide), wgK_60, if_pos (by omega), show 147 + 817 * gq + k - (147 + 817 * gq) = k by omega]
      by_cases q : k = 0
      · subst q
        rw [va_e, up2_e]
      · rw [va_o _ _ q, up2_k _ _ _ _ _ (by omega)]
        rfl
    refine ⟨0, _, 0, 0, nI i2, _, cl, rf, k59 s, ?_, fun _ => ?_, ?_, ?_, ?_⟩
    · rw [rfS_1, va_o _ _ (by decide), rF_o (by decide) (by decide), b4 0 (by decide) (by decide), gB_0, va_e]
    · show zL (setL h 72 0 (nI i2).toInt64) 72 0 = _
      simp [setL, zL, up2, va_up]
    · have gs : GS (wI h (va_up (wgK (up2 K2 60 4232 (nI i2)) (147 + 817 * gq) 817) 59 (va_up (rF G2 p2 g2) 11 (-1)))) := by
        generalize va_up (wgK (up2 K2 60 4232 (nI i2)) (147 + 817 * gq) 817) 59 (va_up (rF G2 p2 g2) 11 (-1)) = JF at n0 n59 n60 nw
        have nk : ∀ a, a ≠ 1 → a ≠ 38 → a ≠ 39 → a ≠ 21 + 3 * gq → a ≠ 22 + 3 * gq → a ≠ 59 → a ≠ 60 → JF a = zI h a := fun a h1 h2 h3 h4 h5 h6 h7 => (n0 a h6 h7).trans (kf a h1 h2 h3 h4 h5)
        refine GS_t g0 (Inv_147 i (fun k hk => n60 k (by omega) (by omega))) ?_ (fun k _ => by rw [nk 2 (by decide) (by decide) (by decide) (by omega) (by omega) (by decide) (by decide)]) (fun k _ => by rw [nk 63 (by decide) (by decide) (by decide) (by omega) (by omega) (by decide) (by decide)]) (fun a k ha => by rw [nk a (by omega) (by omega) (by omega) (by omega) (by omega) (by omega) (by omega)]) ?_ ?_ ?_ ?_
        · refine HR_wish i c (show gq < 5 by omega) n60 (fun a h1 h2 h3 h4 => nk a (by omega) (by omega) (by omega) h3 h4 (by omega) (by omega)) ?_
          rw [n0 (21 + 3 * gq) (by omega) (by omega), n0 (22 + 3 * gq) (by omega) (by omega)]
          exact WR_congr w0 w3 wc nw wr
        · rw [n59, va_o _ _ (by decide), rF_o (by decide) (by decide), b4 4 (by decide) (by decide), gB_4, va_o _ _ (by decide), kf 59 (by decide) (by decide) (by decide) (by omega) (by omega)]
        · rw [n0 1 (by decide) (by decide), k1', va_e]
        · rw [n59, va_o _ _ (by decide), rF_o (by decide) (by decide), b4 6 (by decide) (by decide), gB_6]
        · rw [n0 1 (by decide) (by decide), k1', n59, va_o _ _ (by decide), tF_6, va_e]
      exact GS_L gs
    · show 0 + potC h ≤ potC h + 1
      omega
    · show 0 + potS h ≤ potS h + 6
      omega
theorem j_wishes (g : GS h) (v : Int32) : JB h (F_L_wishes 0 v 72) (F_X12_wishes 59 v) := by
  have g0 := g
  obtain ⟨s, i, c, t, -⟩ := g
  have g5 := iG5 i
  by_cases iv : isIn v (nG (zI h 60)) = true
  · obtain ⟨n, hn, e11⟩ := t.2.2.2
    rcases ws_txt s hn e11 (K := zI h) (G := zI h 59) (fun k hk => (t.1 k hk).symm) (by rw [← t.2.1]; exact e11) with ⟨f2, q2, J2, t2, K2, G2, p2, a1, a2, a3⟩ | ⟨i2, q2, J2, t2, K2, G2, p2, g2, a1, a2, hi2, x, a3⟩
    · exact ws_fail g0 hn e11 iv a1 a3.1
    · obtain ⟨gq, hg, rfl⟩ := isIn_of (by omega) iv
      obtain ⟨-, -, b1, st, -, -, -, -, wr⟩ := a3
      have m0 : va_up (dK K2) 0 (nI i2) 0 = nI i2 := va_e _ _ _
      exact ws_ok g0 hn e11 hg a1 (by rw [wr.2.1, m0]) hi2 b1.1
  · exact ws_none g0 (by simpa using iv)
end WJOINT
