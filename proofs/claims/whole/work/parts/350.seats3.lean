/-! THE CALL seats: both -/
section SEATS3
variable {h : Hp} {f : Nat → Int32}
theorem x_fill (s : Sh h) : F_J7_fill_53178 49 (-1) h = some ((), stH h 49 (fillF (fun _ => -1) (zI h 49) 1280)) := by
  unfold F_J7_fill_53178 F_J7_fill_53178_b0
  rw [gd_d (k49 s), l49 s]
  refine ob_p (iter_at (fun j => (nI j, stH h 49 (fillF (fun _ => -1) (zI h 49) j))) 1280 _ ?_ (fun j hj => ?_) ?_ (FU_lt (by omega))) _
  · rw [fill_0, stH_0]
    rfl
  · show F_J7_fill_53178_l5 49 (-1) (nI j) (nI 1280) (stH h 49 (fillF (fun _ => -1) (zI h 49) j)) = _
    have s' : Sh (stH h 49 (fillF (fun _ => -1) (zI h 49) j)) := s
    unfold F_J7_fill_53178_l5
    rw [if_neg (nI_ge hj (by omega)), gd_d (k49 s'), l49 s', ix_t hj (by omega), gd_t, ncl (by omega), stH_w, nI_1]
    have := fill_up (a := fun _ => -1) (b := zI h 49) (j := j)
    rw [← this]
  · show F_J7_fill_53178_l5 49 (-1) (nI 1280) (nI 1280) _ = _
    unfold F_J7_fill_53178_l5
    rw [if_pos (Int32.le_refl _)]
theorem x_find (s : Sh h) (e60 : zI h 60 = f) (i : Inv f) (c : HR (zI h) 3 f) (ok : allW f) : ∃ J D S H, F_X5_find 48 3 45 h = some ((), wK (wI h J) D S H) ∧ sfI h f (8 ^ nG f) J := by
  have p5 := pow5 (iG5 i)
  have g5 := iG5 i
  have e0 : stH (setI (setI (setI h 48 1 (-1)) 48 2 (-1)) 48 3 0) 49 (fillF (fun _ => -1) (zI h 49) 1280) = wI h (va_up (up2 (up2 (up2 (zI h) 48 1 (-1)) 48 2 (-1)) 48 3 0) 49 (fillF (fun _ => -1) (zI h 49) 1280)) := rfl
  have z49 : zI (setI (setI (setI h 48 1 (-1)) 48 2 (-1)) 48 3 0) 49 = zI h 49 := by rw [su_n (by decide), su_n (by decide), su_n (by decide)]
  have hf := x_fill (h := setI (setI (setI h 48 1 (-1)) 48 2 (-1)) 48 3 0) s
  rw [z49, e0] at hf
  generalize hJ : va_up (up2 (up2 (up2 (zI h) 48 1 (-1)) 48 2 (-1)) 48 3 0) 49 (fillF (fun _ => -1) (zI h 49) 1280) = J at hf
  have oo : ∀ a, a ≠ 48 → a ≠ 49 → J a = zI h a := fun a h1 h2 => by
    rw [← hJ, va_n _ _ _ _ h2, up2_a _ _ _ _ _ h1, up2_a _ _ _ _ _ h1, up2_a _ _ _ _ _ h1]
  have o : sfI h f 0 J := by
    refine ⟨⟨fun a ha => oo a (by omega) (by omega), fun g s2 hg hs => Or.inl ?_⟩, ?_, ?_, ?_⟩
    · have cl := cmp_lt (inR s2 (s2 g)) (nG f)
      have := hs g hg
      rw [← hJ, va_e]
      exact fill_in (by unfold idx; omega)
    · rw [← hJ, va_n _ _ _ _ (by decide), up2_k _ _ _ _ _ (by decide), up2_k _ _ _ _ _ (by decide), up2_e]
      rfl
    · rw [← hJ, va_n _ _ _ _ (by decide), up2_k _ _ _ _ _ (by decide), up2_e]
      rfl
    · rw [← hJ, va_n _ _ _ _ (by decide), up2_e]
      rfl
  have sJ : Sh (wI h J) := s
  have cJ : HR (zI (wI h J)) 3 f := HR_congr (f := f) (fun b hb => oo _ (by omega) (by omega)) (fun g hg => ⟨oo _ (by omega) (by omega), oo _ (by omega) (by omega)⟩) (fun _ _ => rfl) i c
  obtain ⟨D, S, H, st, w⟩ := x_start sJ i cJ (e_sR i cJ).2
  obtain ⟨J', D', S', H', lp, o'⟩ := x_findL s e60 i c ok o w
  refine ⟨J', D', S', H', ?_, o'⟩
  have sI : Sh (setI (setI (setI h 48 1 (-1)) 48 2 (-1)) 48 3 0) := s
  unfold F_X5_find F_X5_find_b0 F_X5_find_b92
  rw [gd_d (k48 s), r48_0 sI, ob_s, hf, ob2_s, x_wishes sJ i cJ, ob_s, gd_d (k3 sJ), (e_sR i cJ).1, st, ob2_s, gd_d (k45 sJ), wiS_nat ok, lp, ob_s]
theorem find_q {J : Nat → Nat → Int32} {D S H : Nat → Int32} (o : snO h f J) : QN h (zI (wK (wI h J) D S H)) := fun a k _ h2 _ _ => by
  rw [wK_I (by unfold cNo at h2; omega), o.1 a (by unfold cNo at h2; omega)]
theorem okW (c : HR (zI h) 3 f) : allW f := fun g hg => (HR_ws c g hg).1
theorem x_seats (s : Sh h) (e60 : zI h 60 = f) (i : Inv f) (c : HR (zI h) 3 f) {v : Int32} (q : isIn v 3 = true) : ∃ J D S H, F_X11_seats 0 v h = some (.inl (seA f v (8 ^ nG f)), wK (wI h J) D S H, 0, 0) ∧ snO h f J := by
  obtain ⟨J, D, S, H, e, o, o1, o2, o3⟩ := x_find s e60 i c (okW c)
  have sK : Sh (wK (wI h J) D S H) := s
  refine ⟨J, D, S, H, ?_, o⟩
  have z : zI (wK (wI h J) D S H) 48 = J 48 := wK_I (by omega)
  unfold F_X11_seats F_X11_seats_b0 seA
  rcases in3 q with rfl | rfl | rfl
  · rw [if_neg (by decide), if_pos (by decide), gd_d (k0 s), r0_6 s, ob_s, r0_1 s, ob_s, r0_5 s, ob_s, e, ob2_s, gd_d (k48 s), if_pos rfl, gd_d (k0 sK), r0_6 sK, ob_s, gd_d (k48 sK), z, o1, if_pos rfl]
  · rw [if_neg (by decide), if_pos (by decide), gd_d (k0 s), r0_6 s, ob_s, r0_1 s, ob_s, r0_5 s, ob_s, e, ob2_s, gd_d (k48 s), if_neg (by decide), if_pos rfl, gd_d (k0 sK), r0_6 sK, ob_s, gd_d (k48 sK), z, o2, if_neg (by decide), if_pos rfl]
  · rw [if_neg (by decide), if_pos (by decide), gd_d (k0 s), r0_6 s, ob_s, r0_1 s, ob_s, r0_5 s, ob_s, e, ob2_s, gd_d (k48 s), if_neg (by decide), if_neg (by decide), gd_d (k0 sK), r0_6 sK, ob_s, gd_d (k48 sK), z, o3, if_neg (by decide), if_neg (by decide)]
theorem j_seats (g : GS h) (v : Int32) : JB h (F_L_seats 0 v 72) (F_X12_seats 59 v) := by
  obtain ⟨s, i, c, -⟩ := id g
  cases q : isIn v 3 with
  | false =>
    have e : F_X11_seats 0 v h = some (.inr 3, h, 1, 6) := by
      have q2 := q
      rw [isIn_le (v := v) (n := 3) (m := 2) (by omega) rfl] at q2
      unfold F_X11_seats F_X11_seats_b0 F_X11_seats_b9
      by_cases w0 : v < 0
      · rw [if_pos w0]
      · rw [if_neg w0]
        by_cases w3 : 2 < v
        · rw [if_neg (Int32.not_le.mpr w3)]
        · rw [decide_eq_false w0, decide_eq_false w3] at q2
          exact absurd q2 (by decide)
    refine JB_t g (k := 1) (by decide) ?_ ⟨0, zI (tk h 1), ?_, tk_m, tk_z⟩
    · unfold F_L_seats; rw [gd_d (k0 s), e, ob4_s]; rfl
    · exact (m_seats s rfl i (okW c) v).1 q
  | true =>
    obtain ⟨J, D, S, H, e, o⟩ := x_seats s rfl i c q
    generalize hR : seA (zI h 60) v (8 ^ nG (zI h 60)) = R at e
    have e60 : zI (setL (wK (wI h J) D S H) 72 0 R.toInt64) 60 = zI h 60 := (wK_I (h := h) (J := J) (D := D) (S := S) (H := H) (a := 60) (by omega)).trans (o.1 60 (by omega))
    have sM : Sh (setL (wK (wI h J) D S H) 72 0 R.toInt64) := s
    obtain ⟨J2, n2, z2, e2⟩ := (m_seats sM e60 i (okW c) v).2 q
    rw [hR] at e2
    refine JB_w g (r := R) (J1 := zI (wK (wI h J) D S H)) (J2 := J2) ?_ e2 z2 (GS_w g (fun a k h1 h2 h3 h4 => (n2 a k h1).trans (find_q o a k h1 h2 h3 h4)))
    unfold F_L_seats; rw [gd_d (k0 s), e, ob4_s]; exact put_out (Sh_w s _) _
end SEATS3
