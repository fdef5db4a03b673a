/-! THE CALL house -/
section HJOINT
variable {h : Hp} {n : Nat}
theorem gB_4 (G : Nat → Int32) : gB G 4 = G 4 := by
  unfold gB
  rw [va_o _ _ (by decide), va_o _ _ (by decide), va_o _ _ (by decide)]
theorem gB_6 (G : Nat → Int32) : gB G 6 = 0 := by
  unfold gB
  rw [va_o _ _ (by decide), va_e]
theorem gB_0 (G : Nat → Int32) : gB G 0 = G 0 := by
  unfold gB
  rw [va_o _ _ (by decide), va_o _ _ (by decide), va_o _ _ (by decide)]
/-- the world as it was before -/
theorem hs_back (g : GS h) {K K2 : Nat → Nat → Int32} {G2 : Nat → Int32} {p2 f2 : Nat} {w v : Int32} (kf : ∀ a, a ≠ 1 → a ≠ 36 → a ≠ 37 → K a = zI h a) (k11 : K 1 1 = 0) (k16 : K 1 6 = w) (b1 : G2 = gB (va_up (K 59) 0 0)) (b3 : ∀ a, a ≠ 60 → K2 a = cpT K 60 62 4232 a) : GS (rfS h (cpT K2 62 60 4232) (va_up (va_up (rF G2 p2 f2) 11 w) 0 v)) := by
  have n0 : ∀ a, a ≠ 1 → a ≠ 36 → a ≠ 37 → a ≠ 59 → a ≠ 60 → a ≠ 62 → va_up (cpT K2 62 60 4232) 59 (va_up (va_up (rF G2 p2 f2) 11 w) 0 v) a = zI h a := fun a h1 h2 h3 h4 h5 h6 => by
    rw [va_n _ _ _ _ h4, cpT_a _ _ h5, b3 a h5, cpT_a _ _ h6, kf a h1 h2 h3]
  have n1 : va_up (cpT K2 62 60 4232) 59 (va_up (va_up (rF G2 p2 f2) 11 w) 0 v) 1 = K 1 := by
    rw [va_n _ _ _ _ (by decide), cpT_a _ _ (by decide), b3 1 (by decide), cpT_a _ _ (by decide)]
  have n59 : va_up (cpT K2 62 60 4232) 59 (va_up (va_up (rF G2 p2 f2) 11 w) 0 v) 59 = va_up (va_up (rF G2 p2 f2) 11 w) 0 v := va_e _ _ _
  have n60 : ∀ k, k < 4232 → va_up (cpT K2 62 60 4232) 59 (va_up (va_up (rF G2 p2 f2) 11 w) 0 v) 60 k = zI h 60 k := fun k hk => by
    rw [va_n _ _ _ _ (by decide), cpT_b, if_pos hk, b3 62 (by decide), cpT_b, if_pos hk, kf 60 (by decide) (by decide) (by decide)]
  show GS (wI h (va_up (cpT K2 62 60 4232) 59 (va_up (va_up (rF G2 p2 f2) 11 w) 0 v)))
  refine GS_same g n60 (fun a h1 h2 => n0 a (by omega) (by omega) (by omega) (by omega) (by omega) (by omega)) (n0 63 (by decide) (by decide) (by decide) (by decide) (by decide) (by decide)) (fun a ha => n0 a (by omega) (by omega) (by omega) (by omega) (by omega) (by omega)) ?_ ?_ ?_ ?_
  · rw [n59, va_o _ _ (by decide), va_o _ _ (by decide), rF_o (by decide) (by decide), b1, gB_4, va_o _ _ (by decide), kf 59 (by decide) (by decide) (by decide)]
  · rw [n1]
    exact k11
  · rw [n59, va_o _ _ (by decide), va_o _ _ (by decide), rF_o (by decide) (by decide), b1, gB_6]
  · rw [n1, n59, k16, va_o _ _ (by decide), va_e]
theorem hs_fail (g : GS h) (hn : n ≤ 400) (e11 : zI h 1 1 = nI n) {J' : Nat → Nat → Int32} {q' f : Nat} {t' : Int32} (e : F_X7_readLines_k3 36 1 3 14 (wI h (cnJ h)) = some (0, cT h (zI h 2) n J' (zI h 1) q' t' (nI f))) (fr : ∀ a, a ≠ 36 → a ≠ 37 → J' a = zI h a) : JB h (F_L_house 0 72) (F_X12_house 59) := by
  have g0 := g
  obtain ⟨s, i, c, t, -⟩ := g
  have cl : F_L_house 0 72 h = some (1, wI h (usJ h n J' q' t' (nI f)), 1, 6) := hs_c0 s e
  have kf : ∀ a, a ≠ 1 → a ≠ 36 → a ≠ 37 → usJ h n J' q' t' (nI f) a = zI h a := fun a h1 h2 h3 => by rw [usJ_o h1, fr a h2 h3]
  have k11 : usJ h n J' q' t' (nI f) 1 1 = 0 := by rw [usJ_1, va_e]
  have k16 : usJ h n J' q' t' (nI f) 1 6 = nI f := by rw [usJ_1, va_o _ _ (by decide), tF_6]
  generalize usJ h n J' q' t' (nI f) = K at cl kf k11 k16
  have hG : va_up (K 59) 0 0 6 = nI n := by
    rw [va_o _ _ (by decide), kf 59 (by decide) (by decide) (by decide), ← t.2.1]
    exact e11
  rcases hs_txt s i c hn e11 (K := cpT K 60 62 4232) (G := va_up (K 59) 0 0) (by rw [cpT_a _ _ (by decide), kf 60 (by decide) (by decide) (by decide)]) (fun k hk => by rw [cpT_a _ _ (by decide), kf 63 (by decide) (by decide) (by decide)]; exact (t.1 k hk).symm) hG with ⟨f2, q2, J2, t2, K2, G2, p2, a1, a2, a3⟩ | ⟨i2, q2, J2, t2, K2, G2, p2, g2, a1, a2, -, -⟩
  · rw [e] at a1
    have hq : nI f = nI f2 := (cT_inj (congrArg Prod.snd (Option.some.inj a1))).2
    obtain ⟨b1, b2, b3⟩ := a3
    have rf := hr_0 s (a2 h s)
    rw [← hq] at rf
    refine ⟨1, wI h K, 1, 6, 0, _, cl, rf, k59 s, ?_, fun q => absurd q (by decide), hs_back g0 kf k11 k16 b1 b3, ?_, ?_⟩
    · rw [rfS_1, va_e]
    · show 1 + potC h ≤ potC h + 1
      omega
    · show 6 + potS h ≤ potS h + 6
      omega
  · rw [e] at a1
    have x : (0 : Int32) = 1 := congrArg Prod.fst (Option.some.inj a1)
    exact absurd x (by decide)
theorem hs_ten (g : GS h) (hn : n ≤ 400) (e11 : zI h 1 1 = nI n) (hx : nX (zI h 60) = 10) {J' : Nat → Nat → Int32} {q' : Nat} {t' : Int32} (e : F_X7_readLines_k3 36 1 3 14 (wI h (cnJ h)) = some (1, cT h (zI h 2) n J' (zI h 1) q' t' (-1))) (fr : ∀ a, a ≠ 36 → a ≠ 37 → J' a = zI h a) : JB h (F_L_house 0 72) (F_X12_house 59) := by
  have g0 := g
  obtain ⟨s, i, c, t, -⟩ := g
  have f3 : zI h 60 3 = 10 := by
    rw [iX i, hx]
    rfl
  have cl : F_L_house 0 72 h = some (2, wI h (usJ h n J' q' t' (-1)), 1, 6) := hs_c2 s e (by rw [fr 3 (by decide) (by decide), show zI h 3 14 = zI h 60 3 from HR_mp c 0 14 3 (by unfold Mp; decide), f3])
  have kf : ∀ a, a ≠ 1 → a ≠ 36 → a ≠ 37 → usJ h n J' q' t' (-1) a = zI h a := fun a h1 h2 h3 => by rw [usJ_o h1, fr a h2 h3]
  have k11 : usJ h n J' q' t' (-1) 1 1 = 0 := by rw [usJ_1, va_e]
  have k16 : usJ h n J' q' t' (-1) 1 6 = -1 := by rw [usJ_1, va_o _ _ (by decide), tF_6]
  generalize usJ h n J' q' t' (-1) = K at cl kf k11 k16
  have hG : va_up (K 59) 0 0 6 = nI n := by
    rw [va_o _ _ (by decide), kf 59 (by decide) (by decide) (by decide), ← t.2.1]
    exact e11
  have c60 : cpT K 60 62 4232 60 = zI h 60 := by rw [cpT_a _ _ (by decide), kf 60 (by decide) (by decide) (by decide)]
  rcases hs_txt s i c hn e11 (K := cpT K 60 62 4232) (G := va_up (K 59) 0 0) c60 (fun k hk => by rw [cpT_a _ _ (by decide), kf 63 (by decide) (by decide) (by decide)]; exact (t.1 k hk).symm) hG with ⟨f2, q2, J2, t2, K2, G2, p2, a1, a2, a3⟩ | ⟨i2, q2, J2, t2, K2, G2, p2, g2, a1, a2, hi2, a3⟩
  · rw [e] at a1
    have x : (1 : Int32) = 0 := congrArg Prod.fst (Option.some.inj a1)
    exact absurd x (by decide)
  · obtain ⟨-, -, -, b1, -, b3, -, b5, -⟩ := a3
    have e3 : K2 60 3 = 10 := by rw [b5, fold_3, c60, f3]
    have rf := hr_2 s (by omega) (a2 h s) e3
    refine ⟨2, wI h K, 1, 6, 0, _, cl, rf, k59 s, ?_, fun q => absurd q (by decide), hs_back g0 kf k11 k16 b1 b3, ?_, ?_⟩
    · rw [rfS_1, va_e]
    · show 1 + potC h ≤ potC h + 1
      omega
    · show 6 + potS h ≤ potS h + 6
      omega
theorem hs_ok (g : GS h) (hn : n ≤ 400) (e11 : zI h 1 1 = nI n) (hx : nX (zI h 60) < 10) {J' : Nat → Nat → Int32} {q' i' : Nat} {t' : Int32} (e : F_X7_readLines_k3 36 1 3 14 (wI h (cnJ h)) = some (1, cT h (zI h 2) n J' (zI h 1) q' t' (-1))) (e0 : J' 36 0 = nI i') (hi : i' ≤ 14) (ok : okR (J' 37) (zI h 60) i') (fr : ∀ a, a ≠ 36 → a ≠ 37 → J' a = zI h a) : JB h (F_L_house 0 72) (F_X12_house 59) := by
  have g0 := g
  obtain ⟨s, i, c, t, -⟩ := g
  have f3 : zI h 60 3 = nI (nX (zI h 60)) := iX i
  have e14 : J' 3 14 = nI (nX (zI h 60)) := by rw [fr 3 (by decide) (by decide), show zI h 3 14 = zI h 60 3 from HR_mp c 0 14 3 (by unfold Mp; decide), f3]
  have uf : ∀ a, a ≠ 1 → a ≠ 36 → a ≠ 37 → usJ h n J' q' t' (-1) a = zI h a := fun a h1 h2 h3 => by rw [usJ_o h1, fr a h2 h3]
  obtain ⟨J'', t1, t2, t3⟩ := x_tellTo (J := usJ h n J' q' t' (-1)) s i (HR_congr (f := zI h 60) (fun a ha => uf _ (by omega) (by omega) (by omega)) (fun g hg => ⟨uf _ (by omega) (by omega) (by omega), uf _ (by omega) (by omega) (by omega)⟩) (fun _ _ => rfl) i c) hi (by rw [usJ_o (by decide)]; exact e0) (by rw [usJ_o (by decide)]; exact ok)
  rw [usJ_o (by decide)] at t2
  have e15 : J'' 3 14 = nI (nX (zI h 60)) := by rw [show J'' 3 14 = foldW (J' 37) (zI h 60) i' 3 from HR_mp t2 0 14 3 (by unfold Mp; decide), fold_3, f3]
  have cl := hs_c1 s e e14 hx t1 e15
  have hr : HR (up2 J'' (3 + 0) 14 (nI (nX (zI h 60) + 1))) 3 (va_up (foldW (J' 37) (zI h 60) i') 3 (nI (nX (zI h 60) + 1))) := tl_w (Inv_fold i _ ok) t2 (x := 0) (k := 14) (w := 3) (by unfold Mp; decide) (by omega) (by omega)
  have iv : Inv (va_up (foldW (J' 37) (zI h 60) i') 3 (nI (nX (zI h 60) + 1))) := by
    have ex : nX (foldW (J' 37) (zI h 60) i') = nX (zI h 60) := by unfold nX; rw [fold_3]
    have := Inv_x (Inv_fold i _ ok) (by rw [ex]; exact hx)
    rw [ex] at this
    exact this
  have kf : ∀ a, a ≠ 1 → (a < 3 ∨ 36 ≤ a) → a ≠ 36 → a ≠ 37 → up2 J'' 3 14 (nI (nX (zI h 60) + 1)) a = zI h a := fun a h1 h2 h3 h4 => by
    rw [up2_a _ _ _ _ _ (by omega), t3 a h2, uf a h1 h3 h4]
  have k1' : up2 J'' 3 14 (nI (nX (zI h 60) + 1)) 1 = va_up (tF (zI h 2) n (zI h 1) q' t' (-1)) 1 0 := by rw [up2_a _ _ _ _ _ (by decide), t3 1 (by omega), usJ_1]
  have hr : HR (up2 J'' 3 14 (nI (nX (zI h 60) + 1))) 3 (va_up (foldW (J' 37) (zI h 60) i') 3 (nI (nX (zI h 60) + 1))) := hr
  generalize up2 J'' 3 14 (nI (nX (zI h 60) + 1)) = K at cl kf k1' hr
  have hG : va_up (K 59) 0 0 6 = nI n := by
    rw [va_o _ _ (by decide), kf 59 (by decide) (by omega) (by decide) (by decide), ← t.2.1]
    exact e11
  have c60 : cpT K 60 62 4232 60 = zI h 60 := by rw [cpT_a _ _ (by decide), kf 60 (by decide) (by omega) (by decide) (by decide)]
  rcases hs_txt s i c hn e11 (K := cpT K 60 62 4232) (G := va_up (K 59) 0 0) c60 (fun k hk => by rw [cpT_a _ _ (by decide), kf 63 (by decide) (by omega) (by decide) (by decide)]; exact (t.1 k hk).symm) hG with ⟨f2, q2, J2, t2', K2, G2, p2, a1, a2, a3⟩ | ⟨i2, q2, J2, t2', K2, G2, p2, g2, a1, a2, hi2, a3⟩
  · rw [e] at a1
    have x : (1 : Int32) = 0 := congrArg Prod.fst (Option.some.inj a1)
    exact absurd x (by decide)
  · rw [e] at a1
    have hq := (cT_inj (congrArg Prod.snd (Option.some.inj a1))).1
    obtain ⟨-, -, b0, b1, -, b3, -, b5, -⟩ := a3
    have ei : i2 = i' := by
      rw [← hq 36 (by decide), e0] at b0
      exact ((nI_eq (by omega) (by omega)).mp b0).symm
    subst ei
    rw [← hq 37 (by decide), c60] at b5
    have sM : Sh (setL h 72 0 (nI (nX (zI h 60) + 1)).toInt64) := s
    have rf := hr_1 sM (by omega) hx (a2 _ sM) (by rw [b5, fold_3, f3])
    have n0 : ∀ a, a ≠ 59 → a ≠ 60 → a ≠ 62 → va_up (up2 K2 60 3 (nI (nX (zI h 60) + 1))) 59 (va_up (rF G2 p2 g2) 11 (-1)) a = K a := fun a h4 h5 h6 => by
      rw [va_n _ _ _ _ h4, up2_a _ _ _ _ _ h5, b3 a h5, cpT_a _ _ h6]
    have n59 : va_up (up2 K2 60 3 (nI (nX (zI h 60) + 1))) 59 (va_up (rF G2 p2 g2) 11 (-1)) 59 = va_up (rF G2 p2 g2) 11 (-1) := va_e _ _ _
    have n60 : va_up (up2 K2 60 3 (nI (nX (zI h 60) + 1))) 59 (va_up (rF G2 p2 g2) 11 (-1)) 60 = va_up (foldW (J' 37) (zI h 60) i2) 3 (nI (nX (zI h 60) + 1)) := by
      rw [va_n _ _ _ _ (by decide), up2_r, b5]
    refine ⟨0, _, 0, 0, nI (nX (zI h 60) + 1), _, cl, rf, k59 s, ?_, fun _ => ?_, ?_, ?_, ?_⟩
    · rw [rfS_1, va_o _ _ (by decide), rF_o (by decide) (by decide), b1, gB_0, va_e]
    · show zL (setL h 72 0 (nI (nX (zI h 60) + 1)).toInt64) 72 0 = _
      simp [setL, zL, up2, va_up]
    · have gs : GS (wI h (va_up (up2 K2 60 3 (nI (nX (zI h 60) + 1))) 59 (va_up (rF G2 p2 g2) 11 (-1)))) := by
        generalize va_up (up2 K2 60 3 (nI (nX (zI h 60) + 1))) 59 (va_up (rF G2 p2 g2) 11 (-1)) = JF at n0 n59 n60
        have nk : ∀ a, a ≠ 1 → (a < 3 ∨ 36 ≤ a) → a ≠ 36 → a ≠ 37 → a ≠ 59 → a ≠ 60 → a ≠ 62 → JF a = zI h a := fun a h1 h2 h3 h4 h5 h6 h7 => (n0 a h5 h6 h7).trans (kf a h1 h2 h3 h4)
        refine GS_t g0 (by rw [n60]; exact iv) ?_ (fun k _ => by rw [nk 2 (by decide) (by omega) (by decide) (by decide) (by decide) (by decide) (by decide)]) (fun k _ => by rw [nk 63 (by decide) (by omega) (by decide) (by decide) (by decide) (by decide) (by decide)]) (fun a k ha => by rw [nk a (by omega) (by omega) (by omega) (by omega) (by omega) (by omega) (by omega)]) ?_ ?_ ?_ ?_
        · rw [n60]
          exact HR_congr (f := va_up (foldW (J' 37) (zI h 60) i2) 3 (nI (nX (zI h 60) + 1))) (fun a ha => n0 _ (by omega) (by omega) (by omega)) (fun g hg => ⟨n0 _ (by omega) (by omega) (by omega), n0 _ (by omega) (by omega) (by omega)⟩) (fun _ _ => rfl) iv hr
        · rw [n59, va_o _ _ (by decide), rF_o (by decide) (by decide), b1, gB_4, va_o _ _ (by decide), kf 59 (by decide) (by omega) (by decide) (by decide)]
        · rw [n0 1 (by decide) (by decide) (by decide), k1', va_e]
        · rw [n59, va_o _ _ (by decide), rF_o (by decide) (by decide), b1, gB_6]
        · rw [n0 1 (by decide) (by decide) (by decide), k1', n59, va_o _ _ (by decide), tF_6, va_e]
      exact GS_L gs
    · show 0 + potC h ≤ potC h + 1
      omega
    · show 0 + potS h ≤ potS h + 6
      omega
theorem j_house (g : GS h) : JB h (F_L_house 0 72) (F_X12_house 59) := by
  have g0 := g
  obtain ⟨s, i, c, t, -⟩ := g
  obtain ⟨n, hn, e11⟩ := t.2.2.2
  rcases hs_txt s i c hn e11 (K := zI h) (G := zI h 59) rfl (fun k hk => (t.1 k hk).symm) (by rw [← t.2.1]; exact e11) with ⟨f2, q2, J2, t2, K2, G2, p2, a1, a2, a3⟩ | ⟨i2, q2, J2, t2, K2, G2, p2, g2, a1, a2, hi2, a3⟩
  · exact hs_fail g0 hn e11 a1 a3.2.1
  · have x10 := iX10 i
    obtain ⟨-, -, b0, -, b2, -, b4, -⟩ := a3
    by_cases hx : nX (zI h 60) < 10
    · exact hs_ok g0 hn e11 hx a1 b0 hi2 b4 b2
    · exact hs_ten g0 hn e11 (by omega) a1 b2
end HJOINT
