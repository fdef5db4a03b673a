/-! The call met -/
section MET3
variable {h : Hp}
/-- only the stacks of wishes have changed -/
def CN (I J : Nat → Nat → Int32) : Prop := ∀ a, ¬ (a = 23 ∨ a = 26 ∨ a = 29 ∨ a = 32 ∨ a = 35) → J a = I a
theorem CN_r (I : Nat → Nat → Int32) : CN I I := fun _ _ => rfl
theorem CN_c {f : Nat → Int32} {J : Nat → Nat → Int32} (i : Inv f) (c : HR (zI h) 3 f) (n : CN (zI h) J) : HR J 3 f := by
  refine HR_congr (fun a ha => ?_) (fun g2 h2 => ⟨?_, ?_⟩) (fun _ _ => rfl) i c
  · exact n _ (by omega)
  · exact n _ (by omega)
  · exact n _ (by omega)
theorem x_metByAll {f : Nat → Int32} (s : Sh h) (i : Inv f) (c : HR (zI h) 3 f) {Q : Nat} (hk : kd h Q = 13) (hl : zl h Q = 5) {sf : Nat → Nat} (hs : seated h Q (nG f) sf) (hQ : ¬ (Q = 23 ∨ Q = 26 ∨ Q = 29 ∨ Q = 32 ∨ Q = 35)) : ∃ J, CN (zI h) J ∧ F_X2_metByAll 3 Q h = some (metA f sf (nG f), wI h J) := by
  have g5 := iG5 i
  have run : ∀ w, w ≤ nG f → ∃ J, CN (zI h) J ∧ ∀ fuel, iter (fun z : Int32 × Int32 × Hp => F_X2_metByAll_l4 3 Q z.1 z.2.1 z.2.2) (fuel + w) (0, 0, h) = iter (fun z : Int32 × Int32 × Hp => F_X2_metByAll_l4 3 Q z.1 z.2.1 z.2.2) fuel (metA f sf w, nI w, wI h J) := by
    intro w
    induction w with
    | zero => intro _; exact ⟨zI h, CN_r _, fun fuel => rfl⟩
    | succ v ih =>
      intro hv
      obtain ⟨J, n, run⟩ := ih (by omega)
      have s' : Sh (wI h J) := s
      have c' : HR (zI (wI h J)) 3 f := CN_c i c n
      have hs' : seated (wI h J) Q (nG f) sf := fun j hj => by
        rw [wI_I, n Q hQ]
        exact hs j hj
      obtain ⟨M2, q1⟩ := x_holding s' i c' hk hl hs' (show v < nG f by omega) (by omega)
      refine ⟨va_up J (23 + 3 * v) M2, fun a ha => ?_, fun fuel => ?_⟩
      · rw [va_n _ _ _ _ (by omega)]
        exact n a ha
      · rw [show fuel + (v + 1) = fuel + 1 + v by omega, run]
        refine iter_st ?_ fuel
        show F_X2_metByAll_l4 3 Q _ (nI v) (wI h J) = _
        unfold F_X2_metByAll_l4
        rw [gd_d (k3 s'), c'.1.2.1, iG i, if_neg (nI_ge (by omega) (by omega)), r3_8 s', ob_s, gd_d (k10 s'), l10 s', ix_t (by omega) (by omega), gd_t, ncl (by omega), r10_g s' (by omega), ob_s, q1, ob2_s, gd_d (kWg s' (show v < 5 by omega)).1, nI_1]
        rfl
  obtain ⟨J, n, run⟩ := run _ (Nat.le_refl _)
  refine ⟨J, n, ?_⟩
  unfold F_X2_metByAll F_X2_metByAll_b0
  have hF : ∃ d, FU = d + 1 + nG f := ⟨FU - 1 - nG f, by have : 1000000000 ≤ FU := Nat.le_refl _; omega⟩
  obtain ⟨d, hF⟩ := hF
  refine (ob_p (a := (metA f sf (nG f), wI h J)) ?_ _).trans rfl
  rw [hF]
  refine (run (d + 1)).trans (iter_en ?_ d)
  have s' : Sh (wI h J) := s
  have c' : HR (zI (wI h J)) 3 f := CN_c i c n
  show F_X2_metByAll_l4 3 Q _ (nI (nG f)) (wI h J) = _
  unfold F_X2_metByAll_l4
  rw [gd_d (k3 s'), c'.1.2.1, iG i, if_pos (Int32.le_refl _)]
theorem CN_q {J : Nat → Nat → Int32} (n : CN (zI h) J) : QN h J := fun a k _ h2 _ _ => by
  rw [n a (fun q => h2 (by unfold cNo; omega))]
theorem stH_m {M : Nat → Int32} : MN (zI h) (zI (stH h 67 M)) := fun a k q => by
  rw [stH_o (fun e => q (by unfold mNo; omega))]
theorem m_met (s : Sh h) (i : Inv (zI h 60)) (ok : ∀ g, g < nG (zI h 60) → WOk (fun k => zI h 60 (147 + 817 * g + k))) (v : Int32) : ∃ J, MN (zI h) J ∧ if v = -1 then J 59 0 = 0 ∧ F_X12_met 59 v h = some (metA (zI h 60) (sit (zI h 60)) (nG (zI h 60)), wI h J) else if isIn v (nG (zI h 60)) then J 59 0 = 0 ∧ F_X12_met 59 v h = some (metF (zI h 60) (sit (zI h 60)) v.toNatClampNeg, wI h J) else J 59 0 = 1 ∧ F_X12_met 59 v h = some (0, wI h J) := by
  have g5 := iG5 i
  unfold F_X12_met F_X12_met_b0 F_X12_met_b23 F_X12_met_b24 F_X12_met_b54
  rw [gd_d (k59 s), t0_d]
  by_cases q : v = -1
  · obtain ⟨M, e⟩ := m_metByAll (hT_sh s) hT_60 i (hT_s i) ok
    refine ⟨zI (stH (hT h) 67 M), MN_t hT_m stH_m, ?_⟩
    rw [if_pos q, if_pos q, m_thr0 (t0_s s), ob2_s, gd_d (k59 (t0_s s)), if_pos rfl, m_sitsT s i, ob2_s, gd_d (k59 (t0_s s)), if_pos q, e, ob2_s, gd_d (k59 (hT_sh s)), stH_o (by decide), hT_z]
    exact ⟨rfl, rfl⟩
  · simp only [if_neg q, m_noGuest (t0_s s) (t0_i i), ob_s, t0_60]
    cases w : isIn v (nG (zI h 60)) with
    | true =>
      obtain ⟨j, hj, rfl⟩ := isIn_of (by omega) w
      obtain ⟨M, e⟩ := m_metBy (hT_sh s) hT_60 i (hT_s i) hj (ok j hj)
      refine ⟨zI (stH (hT h) 67 M), MN_t hT_m stH_m, ?_⟩
      rw [if_pos rfl, Bool.not_true, b2_f, if_pos rfl, m_thr0 (t0_s s), ob2_s, gd_d (k59 (t0_s s)), if_pos rfl, m_sitsT s i, ob2_s, gd_d (k59 (t0_s s)), e, ob2_s, gd_d (k59 (hT_sh s)), stH_o (by decide), hT_z, nI_clamp (by omega)]
      exact ⟨rfl, rfl⟩
    | false =>
      refine ⟨zI (tk h 1), tk_m, ?_⟩
      rw [if_neg (by decide), Bool.not_false, b2_t, if_neg (by decide), m_thr1 (t0_s s), ob2_s, gd_d (k59 (t0_s s)), if_neg (by decide), tk_z]
      exact ⟨rfl, rfl⟩
theorem j_met (g : GS h) (v : Int32) : JB h (F_L_met 0 v 72) (F_X12_met 59 v) := by
  obtain ⟨s, i, c, -⟩ := id g
  have g5 := iG5 i
  have ok : ∀ g, g < nG (zI h 60) → WOk (fun k => zI h 60 (147 + 817 * g + k)) := fun g hg => (HR_ws c g hg).1
  by_cases q : v = -1
  · obtain ⟨J1, n1, e1⟩ := x_metByAll s i c (k9 s) (l9 s) (seat9 i c) (by omega)
    have e : F_X11_met 0 v h = some (.inl (metA (zI h 60) (sit (zI h 60)) (nG (zI h 60))), wI h J1, 0, 0) := by
      unfold F_X11_met F_X11_met_b0
      rw [if_pos q, gd_d (k0 s), r0_1 s, ob_s, ob_s, gd_d (k3 s), r3_7 s, ob_s, e1, ob2_s, gd_d (k3 s)]
    have e60 : zI (setL (wI h J1) 72 0 (metA (zI h 60) (sit (zI h 60)) (nG (zI h 60))).toInt64) 60 = zI h 60 := n1 60 (by omega)
    have s' : Sh (setL (wI h J1) 72 0 (metA (zI h 60) (sit (zI h 60)) (nG (zI h 60))).toInt64) := s
    obtain ⟨J2, n2, e2⟩ := m_met s' (by rw [e60]; exact i) (by rw [e60]; exact ok) v
    rw [if_pos q, e60] at e2
    refine JB_w g (r := metA (zI h 60) (sit (zI h 60)) (nG (zI h 60))) (J1 := J1) (J2 := J2) ?_ e2.2 e2.1 (GS_w g (fun a k h1 h2 h3 h4 => (n2 a k h1).trans (CN_q n1 a k h1 h2 h3 h4)))
    unfold F_L_met; rw [gd_d (k0 s), e, ob4_s]; exact put_out (Sh_w s _) _
  · cases w : isIn v (nG (zI h 60)) with
    | true =>
      obtain ⟨j, hj, rfl⟩ := isIn_of (by omega) w
      obtain ⟨M, e1⟩ := x_holding s i c (k9 s) (l9 s) (seat9 i c) hj (by omega)
      have n1 : CN (zI h) (zI (stH h (23 + 3 * j) M)) := fun a ha => stH_o (by omega)
      have e : F_X11_met 0 (nI j) h = some (.inl (metF (zI h 60) (sit (zI h 60)) j), wI h (zI (stH h (23 + 3 * j) M)), 0, 0) := by
        unfold F_X11_met F_X11_met_b0
        rw [if_neg q, gd_d (k0 s), r0_1 s, ob_s, x_hasGuest s i c, ob_s, gd_d (k3 s), w, b2_t, if_neg (by decide), ob_s, gd_d (k3 s), r3_8 s, ob_s, gd_d (k10 s), l10 s, ix_t (by omega) (by omega), gd_t, ncl (by omega), r10_g s (by omega), ob_s, ob_s, ob_s, gd_d (k3 s), r3_7 s, ob_s, e1, ob2_s, gd_d (kWg s (show j < 5 by omega)).1]
        rfl
      have e60 : zI (setL (wI h (zI (stH h (23 + 3 * j) M))) 72 0 (metF (zI h 60) (sit (zI h 60)) j).toInt64) 60 = zI h 60 := n1 60 (by omega)
      have s' : Sh (setL (wI h (zI (stH h (23 + 3 * j) M))) 72 0 (metF (zI h 60) (sit (zI h 60)) j).toInt64) := s
      obtain ⟨J2, n2, e2⟩ := m_met s' (by rw [e60]; exact i) (by rw [e60]; exact ok) (nI j)
      rw [if_neg q, e60, w, if_pos rfl, nI_clamp (by omega)] at e2
      refine JB_w g (r := metF (zI h 60) (sit (zI h 60)) j) (J1 := zI (stH h (23 + 3 * j) M)) (J2 := J2) ?_ e2.2 e2.1 (GS_w g (fun a k h1 h2 h3 h4 => (n2 a k h1).trans (CN_q n1 a k h1 h2 h3 h4)))
      unfold F_L_met; rw [gd_d (k0 s), e, ob4_s]; exact put_out (Sh_w s _) _
    | false =>
      have e : F_X11_met 0 v h = some (.inr 2, h, 1, 6) := by
        unfold F_X11_met F_X11_met_b0
        rw [if_neg q, gd_d (k0 s), r0_1 s, ob_s, x_hasGuest s i c, ob_s, gd_d (k3 s), w, b2_f, if_pos rfl]
      obtain ⟨J2, n2, e2⟩ := m_met s i ok v
      rw [if_neg q, w, if_neg (by decide)] at e2
      refine JB_t g (k := 1) (by decide) ?_ ⟨0, J2, e2.2, n2, e2.1⟩
      unfold F_L_met; rw [gd_d (k0 s), e, ob4_s]; rfl
end MET3
