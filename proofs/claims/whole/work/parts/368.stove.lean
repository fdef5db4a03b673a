/-! THE CALL stove -/
section STOVE
variable {h : Hp} {f : Nat → Int32}
theorem bV_q (i : Inv f) {T k : Nat} {S : BS} (v : bV (ok2 f) (nbT f) (8 ^ (nG f + 1)) T k S) (hT : T % 8 < nR f) {j : Nat} (hj : j < S.2.2) : S.2.1 j % 8 < nR f := by
  by_cases q : j = 0
  · subst q
    rw [v.1.2.1]
    exact hT
  · obtain ⟨-, -, -, -, h⟩ := v.2.2.2.2.2.2 j (by omega) hj
    unfold ok2 at h
    rw [Bool.and_eq_true] at h
    exact of_decide_eq_true h.1
theorem m_stoveL (s : Sh h) (e60 : zI h 60 = f) (i : Inv f) (hG : nG f < 5) {T rm : Nat} (hT : T < 8 ^ (nG f + 1)) (hTq : T % 8 < nR f) (hrm : rm < 8) {S F Q D D0 : Nat → Int32} (b : tR f D0 (bIn T) F Q D) : ∃ ans S' F' Q' D' x, stE f T rm ans ∧ iter (fun z : Int32 × Hp => F_X12_stove_l89 59 (nI rm) z.1 z.2) FU (0, mT h S F Q D) = some x ∧ (∀ k, k ≠ 26 → D' k = D0 k) ∧ ((ans = -1 ∧ x = .inl (mT h S' F' Q' D')) ∨ (∃ w, w < 32768 ∧ x = .inr (nI w, mT h S' F' Q' D') ∧ F' w = ans)) := by
  have r8 := iR8 i
  have p8 : 8 ^ (nG f + 1) ≤ 32768 := pow8 (by omega)
  have nbl : ∀ x y, x < 8 ^ (nG f + 1) → y ∈ nbT f x → y < 8 ^ (nG f + 1) := fun x y hx hy => nbT_lt i hx hy
  have rv := fun k => (bRun_v (ok := ok2 f) (nb := nbT f) hT nbl k).1
  have s' : ∀ S F Q D, Sh (mT h S F Q D) := fun _ _ _ _ => s
  have key := iter_ex (body := fun z : Int32 × Hp => F_X12_stove_l89 59 (nI rm) z.1 z.2) (fun u z => ∃ j S F Q D, z = (nI j, mT h S F Q D) ∧ tR f D0 (bRun (ok2 f) (nbT f) T j) F Q D ∧ j ≤ (bRun (ok2 f) (nbT f) T j).2.2 ∧ u = 8 ^ (nG f + 1) + 1 - j ∧ ∀ m, m < j → m < (bRun (ok2 f) (nbT f) T m).2.2 ∧ (bRun (ok2 f) (nbT f) T m).2.1 m % 8 ≠ rm) (fun x => ∃ ans S' F' Q' D', stE f T rm ans ∧ (∀ k, k ≠ 26 → D' k = D0 k) ∧ ((ans = -1 ∧ x = .inl (mT h S' F' Q' D')) ∨ (∃ w, w < 32768 ∧ x = .inr (nI w, mT h S' F' Q' D') ∧ F' w = ans))) (fun u z hI => by
    obtain ⟨j, S, F, Q, D, rfl, b, hj, rfl, st⟩ := hI
    have al := bV_all (rv j)
    have e26 : zI (mT h S F Q D) 59 26 = nI (bRun (ok2 f) (nbT f) T j).2.2 := by rw [mT_59, b.2.1]
    show (∃ x, F_X12_stove_l89 59 (nI rm) (nI j) (mT h S F Q D) = some (.inr x) ∧ _) ∨ (∃ z' j', j' < 8 ^ (nG f + 1) + 1 - j ∧ F_X12_stove_l89 59 (nI rm) (nI j) (mT h S F Q D) = some (.inl z') ∧ _)
    by_cases p : j < (bRun (ok2 f) (nbT f) T j).2.2
    · have hx := ((rv j).2.1 j p).1
      have hq := bV_q i (rv j) hTq p
      obtain ⟨S2, F2, Q2, D2, e2, b2⟩ := m_stG (S := S) s e60 i hG (rv j) p b hq (nI rm) (nI j)
      obtain ⟨v1, x1, -, -⟩ := bst_f (ok := ok2 f) (nb := nbT f) (N := 8 ^ (nG f + 1)) (nbT1 f ((bRun (ok2 f) (nbT f) T j).2.1 j)) (rv j) p rfl (fun y hy => by
        have hm : y ∈ nbT f ((bRun (ok2 f) (nbT f) T j).2.1 j) := List.mem_append.mpr (Or.inl hy)
        exact ⟨hm, nbT_lt i hx hm⟩)
      have ek := bV_dd (rv j) x1 p
      have eq := x1.2.1 j p
      have er : bRun (ok2 f) (nbT f) T (j + 1) = (nbT2 f ((bRun (ok2 f) (nbT f) T j).2.1 j) (nR f)).foldl (bst (ok2 f) (dd (bRun (ok2 f) (nbT f) T j) j + 1)) ((nbT1 f ((bRun (ok2 f) (nbT f) T j).2.1 j)).foldl (bst (ok2 f) (dd (bRun (ok2 f) (nbT f) T j) j + 1)) (bRun (ok2 f) (nbT f) T j)) := by
        rw [bRun_s p]
        unfold bK nbT
        rw [List.foldl_append]
      obtain ⟨S3, F3, Q3, D3, e3, b3⟩ := m_stS (S := S2) s e60 i hG v1 (Nat.lt_of_lt_of_le p x1.1) b2 (nI rm) (nI j)
      rw [eq] at e3
      rw [ek, eq, ← er] at b3
      have e0 : F_X12_stove_l89 59 (nI rm) (nI j) (mT h S F Q D) = if (bRun (ok2 f) (nbT f) T j).2.1 j % 8 = rm then some (.inr (.inr (nI ((bRun (ok2 f) (nbT f) T j).2.1 j), mT h S F Q D))) else some (.inl (nI (j + 1), mT h S3 F3 Q3 D3)) := by
        unfold F_X12_stove_l89
        rw [gd_d (k59 (s' _ _ _ _)), e26, if_neg (nI_ge p (by omega)), r59_22 (s' _ _ _ _), ob_s, gd_d (k71 (s' _ _ _ _)), l71 (s' _ _ _ _), ix_t (by omega) (by omega), gd_t, ncl (by omega), mT_71, b.1.2 j p, nl_8, pk_rem (by omega) (by omega) (by omega), e2, ob_s, e3, ob_s, nI_1]
        by_cases z : (bRun (ok2 f) (nbT f) T j).2.1 j % 8 = rm
        · rw [if_pos z, if_pos (by rw [z])]
        · rw [if_neg z, if_neg (fun w => z ((nI_eq (by omega) (by omega)).mp w))]
      by_cases z : (bRun (ok2 f) (nbT f) T j).2.1 j % 8 = rm
      · left
        rw [if_pos z] at e0
        refine ⟨_, e0, nI (dd (bRun (ok2 f) (nbT f) T j) j), S, F, Q, D, ⟨j, st, Or.inr ⟨p, z, rfl⟩⟩, b.2.2, Or.inr ⟨_, by omega, rfl, ?_⟩⟩
        rw [b.1.1 _ hx, bV_d (rv j) p]
        rfl
      · right
        rw [if_neg z] at e0
        have x2 := (bRun_x (ok := ok2 f) (nb := nbT f) hT nbl j 1).1.1
        refine ⟨_, 8 ^ (nG f + 1) + 1 - (j + 1), by omega, e0, j + 1, S3, F3, Q3, D3, rfl, b3, by omega, rfl, fun m hm => ?_⟩
        by_cases e : m = j
        · subst e
          exact ⟨p, z⟩
        · exact st m (by omega)
    · left
      refine ⟨.inl (mT h S F Q D), ?_, -1, S, F, Q, D, ⟨j, st, Or.inl ⟨p, rfl⟩⟩, b.2.2, Or.inl ⟨rfl, rfl⟩⟩
      unfold F_X12_stove_l89
      rw [gd_d (k59 (s' _ _ _ _)), e26, if_pos (nI_le (by omega) (by omega))]) FU (8 ^ (nG f + 1) + 1) (nI 0, mT h S F Q D) (FU_lt (by omega)) ⟨0, S, F, Q, D, rfl, b, Nat.zero_le _, by omega, fun m hm => absurd hm (by omega)⟩
  obtain ⟨x, hx, ans, S2, F2, Q2, D2, e1, e2, e3⟩ := key
  exact ⟨ans, S2, F2, Q2, D2, x, e1, hx, e2, e3⟩
theorem sR_lt (i : Inv f) {rm : Nat} (hrm : rm < nR f) : sR f < nR f := by
  rcases (iSr i).2.2 with q | ⟨-, q⟩
  · exact q
  · omega
theorem m_stove (s : Sh h) (e60 : zI h 60 = f) (i : Inv f) {rm : Nat} (hrm : rm < nR f) : (nG f = 5 → F_X12_stove 59 (nI rm) h = some (-3, t0 h)) ∧ (nG f < 5 → ∃ ans J, MN (zI h) J ∧ J 59 0 = 0 ∧ F_X12_stove 59 (nI rm) h = some (ans, wI h J) ∧ stE f (stT f) rm ans) := by
  have r8 := iR8 i
  have g5 := iG5 i
  have hs := sR_lt i hrm
  have st := t0_s s
  have it : Inv (zI (t0 h) 60) := by
    rw [t0_60, e60]
    exact i
  have nr : F_X12_noRoom 59 (nI rm) (t0 h) = some 0 := by
    rw [m_noRoom st it, t0_60, e60, isIn_nI hrm (by omega)]
    rfl
  have eg : zI (t0 h) 60 1 = nI (nG f) := by rw [t0_60, e60, iG i]
  constructor
  · intro q
    unfold F_X12_stove F_X12_stove_b0
    rw [gd_d (k59 s), t0_d, nr, ob_s, m_thr0 st, ob2_s, if_pos rfl, m_guests st, ob_s, gd_d (k59 st), eg, q, if_pos (show nI 5 = 5 from rfl)]
  · intro hG
    have p8 : 8 ^ (nG f + 1) ≤ 32768 := pow8 (by omega)
    have hF : ordS (sit f) (nG f) < 8 ^ nG f := ordS_lt (sit8 i)
    have hT : stT f < 8 ^ (nG f + 1) := mul8 hF (by omega)
    have hTq : stT f % 8 = sR f := by
      unfold stT
      omega
    have s' : ∀ S F Q D, Sh (mT (t0 h) S F Q D) := fun _ _ _ _ => s
    have e60' : ∀ S F Q D, zI (mT (t0 h) S F Q D) 60 = f := fun _ _ _ _ => by rw [mT_o (by decide) (by decide) (by decide) (by decide), t0_60, e60]
    have l33 : iter (fun z : Int32 × Hp => F_X12_stove_l33 59 (nI rm) z.1 z.2) FU (0, t0 h) = some (mT (t0 h) (zI (t0 h) 66) (fillF (fun _ => -1) (zI (t0 h) 70) 32768) (zI (t0 h) 71) (zI (t0 h) 59)) := by
      refine iter_at (fun j => (nI j, mT (t0 h) (zI (t0 h) 66) (fillF (fun _ => -1) (zI (t0 h) 70) j) (zI (t0 h) 71) (zI (t0 h) 59))) 32768 _ (by rw [fill_0, mT_0]; rfl) (fun j hj => ?_) ?_ (FU_lt (by omega))
      · show F_X12_stove_l33 59 (nI rm) (nI j) (mT (t0 h) _ _ _ _) = _
        unfold F_X12_stove_l33
        rw [nl_32768, if_neg (nI_ge hj (by omega)), gd_d (k59 (s' _ _ _ _)), r59_21 (s' _ _ _ _), ob_s, gd_d (k70 (s' _ _ _ _)), l70 (s' _ _ _ _), ix_t hj (by omega), gd_t, ncl (by omega), mT_w70, nI_1]
        have := fill_up (a := fun _ => -1) (b := zI (t0 h) 70) (j := j)
        rw [← this]
      · show F_X12_stove_l33 59 (nI rm) (nI 32768) _ = _
        unfold F_X12_stove_l33
        rw [nl_32768, if_pos (Int32.le_refl _)]
    have hfl : ∀ y, y < 32768 → fillF (fun _ => -1) (zI (t0 h) 70) 32768 y = -1 := fun y hy => fill_in hy
    generalize fillF (fun _ => -1) (zI (t0 h) 70) 32768 = F1 at *
    have e6 : ∀ S F Q D, zI (mT (t0 h) S F Q D) 60 6 = nI (sR f) := fun _ _ _ _ => by rw [e60', (iS i).1]
    have b0 : tR f (zI (t0 h) 59) (bIn (stT f)) (va_up F1 (stT f) 0) (va_up (zI (t0 h) 71) 0 (nI (stT f))) (va_up (zI (t0 h) 59) 26 1) := by
      refine ⟨⟨fun y hy => ?_, fun j hj => ?_⟩, va_e _ _ _, fun k hk => va_n _ _ _ _ hk⟩
      · show _ = fe (va_up (fun _ => none) (stT f) (some 0) y)
        by_cases e : y = stT f
        · rw [e, va_e, va_e]
          rfl
        · rw [va_n _ _ _ _ e, va_n _ _ _ _ e, hfl y (by omega)]
          rfl
      · have : j < 1 := hj
        have : j = 0 := by omega
        subst this
        rw [va_e]
        rfl
    obtain ⟨ans, S2, F2, Q2, D2, x, se, lp, dd, xx⟩ := m_stoveL (h := t0 h) (S := siF f (zI (t0 h) 66)) st (t0_60.trans e60) i hG hT (by omega) (show rm < 8 by omega) b0
    have mm : MN (zI h) (zI (mT (t0 h) S2 F2 Q2 D2)) := MN_t t0_m (fun a k q => by
      by_cases h1 : a = 59
      · subst h1
        rw [mT_59]
        exact dd k (by unfold mNo at q; omega)
      · rw [mT_o (by unfold mNo at q; omega) (by unfold mNo at q; omega) (by unfold mNo at q; omega) h1])
    have mz : zI (mT (t0 h) S2 F2 Q2 D2) 59 0 = 0 := by
      rw [mT_59, dd 0 (by decide)]
      exact t0_z
    refine ⟨ans, zI (mT (t0 h) S2 F2 Q2 D2), mm, mz, ?_, se⟩
    have n5 : ¬ nI (nG f) = 5 := fun z => by
      have : nG f = 5 := (nI_eq (by omega) (by omega)).mp z
      omega
    have et : (8 : Int32) * nI (ordS (sit f) (nG f)) + nI (sR f) = nI (stT f) := by
      rw [nl_8, nmul, nadd]
      rfl
    have z6 : (6 : Int32).toNatClampNeg = 6 := by decide
    have z0 : (0 : Int32).toNatClampNeg = 0 := by decide
    unfold F_X12_stove F_X12_stove_b0
    rw [gd_d (k59 s), t0_d, nr, ob_s, m_thr0 st, ob2_s, if_pos rfl, m_guests st, ob_s, gd_d (k59 st), eg, if_neg n5, l33, ob_s, m_now (s' _ _ _ _) (e60' _ _ _ _) i, ob2_s, gd_d (k59 (s' _ _ _ _)), mT_66, mT_st, gd_d (k59 (s' _ _ _ _)), r59_1 (s' _ _ _ _), ob_s, gd_d (k60 (s' _ _ _ _)), l60 (s' _ _ _ _), show ix (6 : Int32) 5049 = true from by decide, gd_t, r59_21 (s' _ _ _ _), ob_s, gd_d (k70 (s' _ _ _ _)), z6, e6, et, l70 (s' _ _ _ _), ix_t (by omega) (by omega), gd_t, ncl (by omega), mT_w70, r59_22 (s' _ _ _ _), ob_s, gd_d (k71 (s' _ _ _ _)), l71 (s' _ _ _ _), show ix (0 : Int32) 32768 = true from by decide, gd_t, ob_s, z0, mT_w71, mT_w59, lp, ob_s]
    rcases xx with ⟨rfl, rfl⟩ | ⟨w, hw, rfl, hv⟩
    · rw [sm_l]
      rfl
    · rw [sm_r]
      show gd (decide (kd (mT (t0 h) S2 F2 Q2 D2) 59 = 11)) (ob (zR (mT (t0 h) S2 F2 Q2 D2) 59 21) fun q83 => gd (decide (kd (mT (t0 h) S2 F2 Q2 D2) q83 = 13)) (gd (ix (nI w) (zl (mT (t0 h) S2 F2 Q2 D2) q83)) (some (zI (mT (t0 h) S2 F2 Q2 D2) q83 (nI w).toNatClampNeg, mT (t0 h) S2 F2 Q2 D2)))) = _
      rw [gd_d (k59 (s' _ _ _ _)), r59_21 (s' _ _ _ _), ob_s, gd_d (k70 (s' _ _ _ _)), l70 (s' _ _ _ _), ix_t hw (by omega), gd_t, ncl (by omega), mT_70, hv]
      rfl
theorem j_stove (g : GS h) (v : Int32) : JB h (F_L_stove 0 v 72) (F_X12_stove 59 v) := by
  obtain ⟨s, i, c, -⟩ := id g
  have g5 := iG5 i
  have r8 := iR8 i
  cases q : isIn v (nR (zI h 60)) with
  | false =>
    have e : F_X11_stove 0 v h = some (.inr 2, h, 1, 6) := by
      unfold F_X11_stove F_X11_stove_b0
      rw [gd_d (k0 s), r0_1 s, ob_s, x_hasRoom s i c, ob_s, gd_d (k3 s), q, b2_f, if_pos rfl]
    refine JB_t g (k := 1) (by decide) ?_ ⟨0, zI (tk h 1), ?_, tk_m, tk_z⟩
    · unfold F_L_stove; rw [gd_d (k0 s), e, ob4_s]; rfl
    · unfold F_X12_stove F_X12_stove_b0
      rw [gd_d (k59 s), t0_d, m_noRoom (t0_s s) (t0_i i), ob_s, t0_60, q, Bool.not_false, b2_t, m_thr1 (t0_s s), ob2_s, if_neg (by decide)]
      rfl
  | true =>
    obtain ⟨rm, hrm, rfl⟩ := isIn_of (by omega) q
    have hs := sR_lt i hrm
    have e5 : zI h 3 5 = nI (nG (zI h 60)) := c.1.2.1.trans (iG i)
    have r07 : zR h 0 7 = some 50 := by have s' := s; unfold Sh at s'; simp only [s']
    by_cases hG : nG (zI h 60) = 5
    · have e : F_X11_stove 0 (nI rm) h = some (.inl (-3), h, 0, 0) := by
        unfold F_X11_stove F_X11_stove_b0
        rw [gd_d (k0 s), r0_1 s, ob_s, x_hasRoom s i c, ob_s, gd_d (k3 s), q, b2_t, if_neg (by decide), ob_s, gd_d (k3 s), e5, hG, if_neg (show ¬ nI 5 < 5 by decide)]
      refine JB_r g (r := -3) ?_ ⟨zI (t0 h), ?_, t0_m, t0_z⟩
      · unfold F_L_stove; rw [gd_d (k0 s), e, ob4_s]; exact put_out s _
      · have := (m_stove (h := setL h 72 0 (-3 : Int32).toInt64) (f := zI h 60) s rfl i hrm).1 hG
        rw [this]
        rfl
    · have hG' : nG (zI h 60) < 5 := by omega
      have pre : F_X11_stove 0 (nI rm) h = ob4 (F_X4_stoveTo 50 (nI rm) 3 45 h) (fun r17 h18 n19 n20 => ac n19 n20 (some (.inl r17, h18, 0, 0))) := by
        unfold F_X11_stove F_X11_stove_b0
        rw [gd_d (k0 s), r0_1 s, ob_s, x_hasRoom s i c, ob_s, gd_d (k3 s), q, b2_t, if_neg (by decide), ob_s, gd_d (k3 s), e5, if_pos (show nI (nG (zI h 60)) < 5 from nI_lt (b := 5) hG' (by omega)), r07, ob_s, ob_s, r0_5 s, ob_s]
        congr 1
        funext r17 h18 n19 n20
        rw [gd_d (k50 s)]
      have mk : ∀ (H : Hp) (ans : Int32), Sh H → zI H 60 = zI h 60 → stE (zI h 60) (stT (zI h 60)) rm ans → ∃ J2, MN (zI H) J2 ∧ J2 59 0 = 0 ∧ F_X12_stove 59 (nI rm) H = some (ans, wI H J2) := fun H ans sH eH se => by
        obtain ⟨a2, J2, m1, m2, m3, m4⟩ := (m_stove sH eH i hrm).2 hG'
        rw [stE_u m4 se] at m3
        exact ⟨J2, m1, m2, m3⟩
      by_cases hne : sR (zI h 60) = rm
      · have e : F_X11_stove 0 (nI rm) h = some (.inl 0, h, 0, 0) := by
          rw [pre]
          unfold F_X4_stoveTo F_X4_stoveTo_b0
          rw [gd_d (k3 s), (e_sR i c).1, hne, if_pos rfl, ob4_s]
          rfl
        have se : stE (zI h 60) (stT (zI h 60)) rm 0 := by
          refine ⟨0, fun j hj => absurd hj (by omega), Or.inr ⟨Nat.zero_lt_one, ?_, ?_⟩⟩
          · show stT (zI h 60) % 8 = rm
            unfold stT
            omega
          · have : dd (bRun (ok2 (zI h 60)) (nbT (zI h 60)) (stT (zI h 60)) 0) 0 = 0 := by
              show (va_up (fun _ => none) (stT (zI h 60)) (some 0) (stT (zI h 60))).getD 0 = 0
              rw [va_e]
              rfl
            rw [this]
            rfl
        refine JB_g g (J := zI h) (fun _ _ _ _ _ _ => rfl) (out := 0) (c := 0) (sl := 0) ?_ (by omega) (by omega) (mk (setL h 72 0 (0 : Int32).toInt64) 0 s rfl se)
        unfold F_L_stove
        rw [gd_d (k0 s), e, ob4_s]
        exact put_out2 s _ _ _
      · obtain ⟨hx, J, A, Q, n, c0, sl, ans, es, po, q1, q2, se⟩ := x_stoveTo g rfl hG' hrm hs hne
        have ec : F_X11_stove 0 (nI rm) h = some (.inl ans, wI hx J, 0 + c0, 0 + sl) := by
          rw [pre, es, ob4_s, ac_s]
        refine JB_g po.1 (pa_q po) (out := ans) (c := 0 + c0) (sl := 0 + sl) ?_ (by omega) (by omega) (mk (setL (wI hx J) 72 0 ans.toInt64) ans po.1.1 (pa_60 po) se)
        unfold F_L_stove
        rw [gd_d (k0 s), ec, ob4_s]
        exact put_out2 (hx := wI hx J) po.1.1 _ _ _
end STOVE
