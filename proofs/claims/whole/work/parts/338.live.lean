/-! THE CALL live -/
section LIVE
variable {h : Hp} {f : Nat → Int32}
def gsF (F S : Nat → Int32) (n : Nat) : Nat → Int32 := fun k => if 44 ≤ k ∧ k < 44 + 2 * n ∧ k % 2 = 0 then S ((k - 44) / 2) else F k
theorem gsF_g {F S : Nat → Int32} {n g : Nat} (hg : g < n) : gsF F S n (44 + 2 * g) = S g := by
  unfold gsF
  rw [if_pos (by omega), show (44 + 2 * g - 44) / 2 = g by omega]
theorem gsF_o {F S : Nat → Int32} {n k : Nat} (hk : ∀ g, g < n → k ≠ 44 + 2 * g) : gsF F S n k = F k := by
  unfold gsF
  rw [if_neg (fun q => hk ((k - 44) / 2) (by omega) (by omega))]
theorem gsF_0 {F S : Nat → Int32} : gsF F S 0 = F := by
  funext k
  exact gsF_o (fun g hg => absurd hg (by omega))
theorem gsF_s {F S : Nat → Int32} {n : Nat} : va_up (gsF F S n) (44 + 2 * n) (S n) = gsF F S (n + 1) := by
  funext k
  by_cases e : k = 44 + 2 * n
  · subst e
    rw [va_e, gsF_g (by omega)]
  · rw [va_n _ _ _ _ e]
    unfold gsF
    by_cases q : 44 ≤ k ∧ k < 44 + 2 * n ∧ k % 2 = 0
    · rw [if_pos q, if_pos (by omega)]
    · rw [if_neg q, if_neg (by omega)]
theorem m_liveL (s : Sh h) (i : Inv f) {S T D : Nat → Int32} : iter (fun z : Int32 × Hp => F_X12_live_l11 59 z.1 z.2) FU (0, dM h f S T D) = some (stH (dM h f S T D) 60 (gsF (dyF f T) S (nG f))) := by
  have g5 := iG5 i
  have e1 : ∀ n, zI (stH (dM h f S T D) 60 (gsF (dyF f T) S n)) 60 1 = nI (nG f) := fun n => by
    rw [stH_e, gsF_o (fun g _ => by omega), dyF_o (fun t _ => by omega), iG i]
  refine iter_at (fun j => (nI j, stH (dM h f S T D) 60 (gsF (dyF f T) S j))) (nG f) _ ?_ (fun j hj => ?_) ?_ (FU_lt (by omega))
  · rw [gsF_0]
    have : stH (dM h f S T D) 60 (dyF f T) = dM h f S T D := by
      rw [← dM_60 (h := h) (S := S) (T := T) (D := D), stH_0]
    rw [this]
    rfl
  · show F_X12_live_l11 59 (nI j) (stH (dM h f S T D) 60 (gsF (dyF f T) S j)) = _
    have s' : Sh (stH (dM h f S T D) 60 (gsF (dyF f T) S j)) := s
    have ea : (((43 : Int32) + ((2 : Int32) * nI j)) + (1 : Int32)) = nI (44 + 2 * j) := by
      rw [nl_43, nl_2, nmul, nadd, nI_1]
      congr 1
      omega
    unfold F_X12_live_l11
    rw [m_guests s', ob_s, gd_d (k59 s'), e1, if_neg (nI_ge hj (by omega)), r59_1 s', ob_s, r59_15 s', ob_s, gd_d (k66 s'), l66 s', ix_t (by omega) (by omega), gd_t, gd_d (k60 s'), ea, l60 s', ix_t (by omega) (by omega), gd_t, ncl (by omega), ncl (by omega), stH_o (by decide), dM_66, stH_w, gsF_s, nI_1]
  · show F_X12_live_l11 59 (nI (nG f)) (stH (dM h f S T D) 60 (gsF (dyF f T) S (nG f))) = _
    have s' : Sh (stH (dM h f S T D) 60 (gsF (dyF f T) S (nG f))) := s
    unfold F_X12_live_l11
    rw [m_guests s', ob_s, gd_d (k59 s'), e1, if_pos (Int32.le_refl _)]
theorem live_i (i : Inv f) {S T : Nat → Int32} (oS : okS f (nG f) S) (oT : okS f (nT f) T) : Inv (gsF (dyF f T) S (nG f)) := by
  have r8 := iR8 i
  have g5 := iG5 i
  have t6 := iT6 i
  have b20 := iB20 i
  have lo : ∀ k, (∀ g, g < nG f → k ≠ 44 + 2 * g) → (∀ t, t < 6 → k ≠ 55 + 3 * t) → gsF (dyF f T) S (nG f) k = f k := fun k h1 h2 => by rw [gsF_o h1, dyF_o h2]
  refine Inv_mk i (fun k hk => lo k (fun g _ => by omega) (fun t _ => by omega)) (fun r hr => ?_) (fun g hg => ?_) (fun t ht => ?_) (fun b hb => ?_)
  · rw [lo _ (fun g _ => by omega) (fun t _ => by omega), lo _ (fun g _ => by omega) (fun t _ => by omega), lo _ (fun g _ => by omega) (fun t _ => by omega), lo _ (fun g _ => by omega) (fun t _ => by omega)]
    exact irm i r hr
  · rw [lo _ (fun g _ => by omega) (fun t _ => by omega), gsF_g hg]
    exact ⟨(ig2 i g hg).1, oS g hg⟩
  · rw [lo _ (fun g _ => by omega) (fun t _ => by omega), lo _ (fun g _ => by omega) (fun t _ => by omega), gsF_o (fun g _ => by omega), dyF_t (by omega)]
    obtain ⟨a, b, c, -⟩ := it2 i t ht
    exact ⟨a, b, c, oT t ht⟩
  · rw [lo _ (fun g _ => by omega) (fun t _ => by omega), lo _ (fun g _ => by omega) (fun t _ => by omega), lo _ (fun g _ => by omega) (fun t _ => by omega)]
    exact ibk i b hb
theorem j_live (g : GS h) : JA h (F_X11_live 0) (F_X12_live 59) := by
  obtain ⟨s, i, c, -⟩ := id g
  have g5 := iG5 i
  have t6 := iT6 i
  obtain ⟨hb, S0, T0, D, ⟨J, rfl, Jo⟩, bb, s0, tt0, b6, d2, d3, e⟩ := x_pass s i c
  have oS : okS (zI h 60) (nG (zI h 60)) S0 := fun g hg => by
    rw [s0 g (by omega)]
    exact (ig2 i g hg).2
  have oT : okS (zI h 60) (nT (zI h 60)) T0 := fun t ht => by
    rw [tt0 t (by omega)]
    exact (it2 i t ht).2.2.2
  have inv := dyR_i i oS oT 1000 (Nat.le_refl _)
  have sb : Sh (wI h J) := s
  have key : ∀ H : Hp, Sh H → zI H 60 = zI h 60 → ∃ (z' : DS) (D' : Nat → Int32), dyA (zI h 60) z' (dyR (zI h 60) S0 T0 1000) ∧ okS (zI h 60) (nG (zI h 60)) z'.1 ∧ okS (zI h 60) (nT (zI h 60)) z'.2.2.1 ∧ D' 18 = (dyR (zI h 60) S0 T0 1000).2.2.2.2 ∧ (∀ k, k ≠ 17 → k ≠ 18 → D' k = zI (t0 H) 59 k) ∧ F_X12_passesDay 59 (t0 H) = some ((), dM (t0 H) (zI h 60) z'.1 z'.2.2.1 D') := by
    intro H sH eH
    obtain ⟨D', a1, a2, a3, a4⟩ := m_pass (t0_s sH) (t0_60.trans eH) i
    have cg := dy_cg i (S := seS (t0 H) (zI h 60)) (R := S0) (T := trT (zI h 60)) (U := T0) (fun g hg => by
      unfold seS
      rw [fill_in hg, s0 g (by omega)]) (fun t ht => by rw [tt0 t ht]; rfl)
    have inv2 := dyR_i i (S0 := seS (t0 H) (zI h 60)) (T0 := trT (zI h 60)) (seS_ok i) (trT_ok i) 1000 (Nat.le_refl _)
    exact ⟨_, D', cg, inv2.1, inv2.2.2.1, by rw [a2, cg.2.2.2.2], a3, a4⟩
  generalize hz : dyR (zI h 60) S0 T0 1000 = z at *
  obtain ⟨i1, i2, i3, i4, i5, i6, i7⟩ := inv
  have z0 : (0 : Int32).toNatClampNeg = 0 := by decide
  have z5 : (5 : Int32).toNatClampNeg = 5 := by decide
  have e1 : cpA (dC (wI h J) z.1 z.2.2.1 D) 54 0 9 0 5 = wI h (va_up (zI (dC (wI h J) z.1 z.2.2.1 D)) 9 (va_cpy z.1 (zI h 9) 0 0 5)) := by
    rw [cpA_w z0 z0 z5, dC_54, dC_o (a := 9) (by decide) (by decide) (by decide), wI_I, Jo 9 (by omega)]
    rfl
  generalize hI : va_up (zI (dC (wI h J) z.1 z.2.2.1 D)) 9 (va_cpy z.1 (zI h 9) 0 0 5) = J3 at e1
  have I9 : ∀ k, k < 5 → J3 9 k = z.1 k := fun k hk => by rw [← hI, va_e, pk_cpy_in (by omega) (by omega), show 0 + (k - 0) = k by omega]
  have Io : ∀ a, a ≠ 9 → J3 a = zI (dC (wI h J) z.1 z.2.2.1 D) a := fun a ha => by rw [← hI, va_n _ _ _ _ ha]
  have s3 : Sh (wI h J3) := s
  have e2 := x_copyT (A := 11) (B := 55) (TSh11 s3) (TSh55 s3) (by omega)
  rw [wI_w, wI_I] at e2
  generalize hK : cpJ J3 11 55 = J4 at e2
  have K9 : ∀ k, k < 5 → J4 9 k = z.1 k := fun k hk => by rw [← hK, cpJ_o (by omega), I9 k hk]
  have K11 : J4 11 0 = zI h 60 2 := by rw [← hK, cpJ_0, Io 55 (by omega), dC_o (by decide) (by decide) (by decide)]; exact bb.1
  have K11' : ∀ k, k ≠ 0 → J4 11 k = zI h 11 k := fun k hk => by
    rw [← hK]
    unfold cpJ
    rw [va_n _ _ _ _ (by omega), va_n _ _ _ _ (by omega), va_n _ _ _ _ (by omega), up2_k _ _ _ _ _ hk, Io 11 (by omega), dC_o (by decide) (by decide) (by decide), wI_I, Jo 11 (by omega)]
  have K12 : ∀ k, k < 6 → J4 12 k = zI h 60 (53 + 3 * k) := fun k hk => by
    rw [← hK]
    refine (cpJ_1 hk).trans ?_
    rw [Io _ (by omega), dC_o (by omega) (by omega) (by omega)]
    exact (b6 k hk).1
  have K13 : ∀ k, k < 6 → J4 13 k = zI h 60 (54 + 3 * k) := fun k hk => by
    rw [← hK]
    refine (cpJ_2 hk).trans ?_
    rw [Io _ (by omega), dC_o (by omega) (by omega) (by omega)]
    exact (b6 k hk).2
  have K14 : ∀ k, k < 6 → J4 14 k = z.2.2.1 k := fun k hk => by
    rw [← hK]
    refine (cpJ_3 hk).trans ?_
    rw [Io _ (by omega)]
    show zI (dC (wI h J) z.1 z.2.2.1 D) 58 k = _
    rw [dC_58]
  have Ko : ∀ a, a ≠ 9 → (a < 11 ∨ 14 < a) → (a < 53 ∨ 58 < a) → J4 a = zI h a := fun a h1 h2 h3 => by
    rw [← hK, cpJ_o (by omega), Io a h1, dC_o (by omega) (by omega) (by omega), wI_I, Jo a (by omega)]
  have K53 : J4 53 = D := by rw [← hK, cpJ_o (by omega), Io 53 (by omega), dC_53]
  have s4 : Sh (wI h J4) := s
  obtain ⟨z', D', ⟨c1, -, c3, -, -⟩, o1, o2, dd, dk, mp⟩ := key (wI h J4) s4 (Ko 60 (by omega) (by omega) (by omega))
  have s8 : Sh (dC (wI h J) z.1 z.2.2.1 D) := s
  refine ⟨z.2.2.2.2, wI h J4, stH (dM (t0 (wI h J4)) (zI h 60) z'.1 z'.2.2.1 D') 60 (gsF (dyF (zI h 60) z'.2.2.1) z'.1 (nG (zI h 60))), ?_, ?_, k59 s, ?_, Nat.le_refl _, Nat.le_refl _⟩
  · unfold F_X11_live F_X11_live_b0
    rw [gd_d (k0 s), r0_8 s, ob_s, r0_1 s, ob_s, e, ob2_s, gd_d (k53 s), gd_d (k0 s8), r0_8 s8, ob_s, gd_d (k53 s8), r53_0 s8, ob_s, r0_1 s8, ob_s, gd_d (k3 s8), r3_7 s8, ob_s, gd_d (k54 s8), gd_d (k9 s8), l54 s8, l9 s8, cpk5, gd_t, e1, r0_1 s3, ob_s, gd_d (k3 s3), r3_9 s3, ob_s, r0_8 s3, ob_s, gd_d (k53 s3), r53_1 s3, ob_s, e2, ob2_s, gd_d (k11 s3), gd_d (k0 s4), r0_8 s4, ob_s, gd_d (k53 s4), wI_I, K53, d2]
  · have sM : Sh (stH (dM (t0 (wI h J4)) (zI h 60) z'.1 z'.2.2.1 D') 60 (gsF (dyF (zI h 60) z'.2.2.1) z'.1 (nG (zI h 60)))) := s
    unfold F_X12_live F_X12_live_b0
    rw [gd_d (k59 s4), t0_d, mp, ob2_s]
    refine (ob_p (m_liveL (t0_s s4) i) _).trans ?_
    rw [gd_d (k59 sM), stH_o (by decide), dM_59, dd]
  · have at60 : zI (stH (dM (t0 (wI h J4)) (zI h 60) z'.1 z'.2.2.1 D') 60 (gsF (dyF (zI h 60) z'.2.2.1) z'.1 (nG (zI h 60)))) 60 = gsF (dyF (zI h 60) z'.2.2.1) z'.1 (nG (zI h 60)) := stH_e
    have atA : ∀ a, a ≠ 59 → a ≠ 60 → a ≠ 66 → zI (stH (dM (t0 (wI h J4)) (zI h 60) z'.1 z'.2.2.1 D') 60 (gsF (dyF (zI h 60) z'.2.2.1) z'.1 (nG (zI h 60)))) a = J4 a := fun a h1 h2 h3 => by
      rw [stH_o h2, dM_o h3 h2 h1, t0_o h1]
      rfl
    have at59 : ∀ k, k ≠ 0 → k ≠ 17 → k ≠ 18 → zI (stH (dM (t0 (wI h J4)) (zI h 60) z'.1 z'.2.2.1 D') 60 (gsF (dyF (zI h 60) z'.2.2.1) z'.1 (nG (zI h 60)))) 59 k = zI h 59 k := fun k h1 h2 h3 => by
      rw [stH_o (by decide), dM_59, dk k h2 h3]
      refine (su_k h1).trans ?_
      rw [wI_I, Ko 59 (by omega) (by omega) (by omega)]
    have lo : ∀ k, (∀ g, g < nG (zI h 60) → k ≠ 44 + 2 * g) → (∀ t, t < 6 → k ≠ 55 + 3 * t) → zI (stH (dM (t0 (wI h J4)) (zI h 60) z'.1 z'.2.2.1 D') 60 (gsF (dyF (zI h 60) z'.2.2.1) z'.1 (nG (zI h 60)))) 60 k = zI h 60 k := fun k h1 h2 => by rw [at60, gsF_o h1, dyF_o h2]
    have gs := GS_many (J := zI (stH (dM (t0 (wI h J4)) (zI h 60) z'.1 z'.2.2.1 D') 60 (gsF (dyF (zI h 60) z'.2.2.1) z'.1 (nG (zI h 60))))) g (by rw [at60]; exact live_i i o1 o2) ?_ (lo 1 (fun g _ => by omega) (fun t _ => by omega)) (lo 4 (fun g _ => by omega) (fun t _ => by omega)) (fun k h1 h2 => lo k (fun g _ => by omega) (fun t _ => by omega)) (fun k h1 h2 => lo k (fun g _ => by omega) (fun t _ => by omega)) ?_
    · exact gs
    · intro a k w m
      have q := HR_mp c a k w m
      have hbd := mp_bd m
      rw [atA (3 + a) (by omega) (by omega) (by omega)]
      by_cases a6 : a = 6
      · subst a6
        have hk : k < 5 ∧ w = 44 + 2 * k := by
          rcases m with ⟨m1, m2⟩ | ⟨m1, m2, m3⟩ | ⟨m1, m2, m3⟩ | ⟨m1, m2, m3, m4⟩ | ⟨m1, m2, m3, m4⟩ | ⟨m1, m2, m3, m4⟩ | ⟨m1, m2, m3, m4⟩ <;> omega
        obtain ⟨hk, rfl⟩ := hk
        show J4 9 k = _
        rw [K9 k hk, at60]
        by_cases hg : k < nG (zI h 60)
        · rw [gsF_g hg, c1 k hg]
        · rw [gsF_o (fun g _ => by omega), dyF_o (fun t _ => by omega), i5 k (by omega), s0 k hk]
      · have ng : ∀ g, g < nG (zI h 60) → w ≠ 44 + 2 * g := fun g hg e => a6 ((mp_fun (mp_G (a := 6) (k := g) (by omega) (by omega) (by omega) rfl) m).mpr (by omega)).1
        by_cases a11 : a = 11
        · subst a11
          have hk : k < 6 ∧ w = 55 + 3 * k := by
            rcases m with ⟨m1, m2⟩ | ⟨m1, m2, m3⟩ | ⟨m1, m2, m3⟩ | ⟨m1, m2, m3, m4⟩ | ⟨m1, m2, m3, m4⟩ | ⟨m1, m2, m3, m4⟩ | ⟨m1, m2, m3, m4⟩ <;> omega
          obtain ⟨hk, rfl⟩ := hk
          show J4 14 k = _
          rw [K14 k hk, at60, gsF_o ng, dyF_t hk, c3 k hk]
        · have nt : ∀ t, t < 6 → w ≠ 55 + 3 * t := fun t ht e => a11 ((mp_fun (mp_T (a := 11) (k := t) (by omega) (by omega) (by omega) rfl) m).mpr (by omega)).1
          rw [lo w ng nt, ← q]
          by_cases a9 : a = 9
          · subst a9
            have hk : k < 6 ∧ w = 53 + 3 * k := by
              rcases m with ⟨m1, m2⟩ | ⟨m1, m2, m3⟩ | ⟨m1, m2, m3⟩ | ⟨m1, m2, m3, m4⟩ | ⟨m1, m2, m3, m4⟩ | ⟨m1, m2, m3, m4⟩ | ⟨m1, m2, m3, m4⟩ <;> omega
            rw [q, hk.2]
            exact K12 k hk.1
          · by_cases a10 : a = 10
            · subst a10
              have hk : k < 6 ∧ w = 54 + 3 * k := by
                rcases m with ⟨m1, m2⟩ | ⟨m1, m2, m3⟩ | ⟨m1, m2, m3⟩ | ⟨m1, m2, m3, m4⟩ | ⟨m1, m2, m3, m4⟩ | ⟨m1, m2, m3, m4⟩ | ⟨m1, m2, m3, m4⟩ <;> omega
              rw [q, hk.2]
              exact K13 k hk.1
            · by_cases a8 : a = 8
              · subst a8
                have hk : k = 0 ∧ w = 2 := by
                  rcases m with ⟨m1, m2⟩ | ⟨m1, m2, m3⟩ | ⟨m1, m2, m3⟩ | ⟨m1, m2, m3, m4⟩ | ⟨m1, m2, m3, m4⟩ | ⟨m1, m2, m3, m4⟩ | ⟨m1, m2, m3, m4⟩ <;> omega
                rw [q, hk.2, hk.1]
                exact K11
              · rw [Ko (3 + a) (by omega) (by omega) (by omega)]
    · intro a k n1 n2 n3 n4
      by_cases a59 : a = 59
      · subst a59
        exact at59 k (by unfold mNo at n1; omega) (by unfold mNo at n1; omega) (by unfold mNo at n1; omega)
      · rw [atA a a59 n4 (by unfold mNo at n1; omega), Ko a (by omega) (by omega) (by unfold cNo at n2; omega)]
end LIVE
