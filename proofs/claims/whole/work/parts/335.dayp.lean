/-! A DAY: the reference's calls -/
section DAYP
variable {h : Hp} {f : Nat → Int32}
def trT (f : Nat → Int32) (t : Nat) : Int32 := f (55 + 3 * t)
theorem dyF_id {T : Nat → Int32} (e : ∀ t, t < 6 → T t = f (55 + 3 * t)) : dyF f T = f := by
  funext k
  unfold dyF
  by_cases q : 55 ≤ k ∧ k < 73 ∧ k % 3 = 1
  · rw [if_pos q, e _ (by omega), show 55 + 3 * ((k - 55) / 3) = k by omega]
  · rw [if_neg q]
def seS (h : Hp) (f : Nat → Int32) : Nat → Int32 := fillF (fun g => f (44 + 2 * g)) (zI h 66) (nG f)
theorem seS_ok (i : Inv f) : okS f (nG f) (seS h f) := fun g hg => by
  unfold seS
  rw [fill_in hg]
  exact (ig2 i g hg).2
theorem trT_ok (i : Inv f) : okS f (nT f) (trT f) := fun t ht => (it2 i t ht).2.2.2
theorem m_passL (s : Sh h) (i : Inv f) {S0 T0 D0 : Nat → Int32} (oS : okS f (nG f) S0) (oT : okS f (nT f) T0) (d17 : D0 17 = 0) (d18 : D0 18 = -1) : ∃ D, D 17 = nI (dyR f S0 T0 1000).2.2.2.1 ∧ D 18 = (dyR f S0 T0 1000).2.2.2.2 ∧ (∀ k, k ≠ 17 → k ≠ 18 → D k = D0 k) ∧ iter (fun z : Int32 × Int32 × Hp => F_X12_passesDay_l18 59 z.1 z.2.1 z.2.2) FU (0, 0, dM h f S0 T0 D0) = some (dM h f (dyR f S0 T0 1000).1 (dyR f S0 T0 1000).2.2.1 D) := by
  have b20 := iB20 i
  have run : ∀ m, m ≤ 1000 → ∃ D, D 17 = nI (dyR f S0 T0 m).2.2.2.1 ∧ D 18 = (dyR f S0 T0 m).2.2.2.2 ∧ (∀ k, k ≠ 17 → k ≠ 18 → D k = D0 k) ∧ ∀ fuel, iter (fun z : Int32 × Int32 × Hp => F_X12_passesDay_l18 59 z.1 z.2.1 z.2.2) (fuel + m) (0, 0, dM h f S0 T0 D0) = iter (fun z : Int32 × Int32 × Hp => F_X12_passesDay_l18 59 z.1 z.2.1 z.2.2) fuel (nI (dyR f S0 T0 m).2.1, nI m, dM h f (dyR f S0 T0 m).1 (dyR f S0 T0 m).2.2.1 D) := by
    intro m
    induction m with
    | zero => intro _; exact ⟨D0, d17, d18, fun _ _ _ => rfl, fun fuel => rfl⟩
    | succ m ih =>
      intro hm
      obtain ⟨D, a1, a2, a3, a4⟩ := ih (by omega)
      have inv := dyR_i i oS oT m (by omega)
      have es : dyR f S0 T0 (m + 1) = mnU f m (dyR f S0 T0 m) := rfl
      rw [es]
      generalize hz : dyR f S0 T0 m = z at *
      obtain ⟨i1, i2, i3, i4, i5, i6, i7⟩ := inv
      obtain ⟨w1, w2, w3, w4, w5⟩ := wk_ok i m 21 (z.1, z.2.1) i1 i2
      have wa := m_walk s i m (by omega) 21 (S := z.1) (T := z.2.2.1) (D := D) (L := z.2.1) i3 i2 (by omega) FU (by show 21 ≤ 1000000000; omega)
      obtain ⟨D', e1, e2, e3, e4⟩ := m_min s i (show m < 1000 by omega) (L := (wkS f m 21 (z.1, z.2.1)).2) w1 i3 a1 a2 i7 (nI (wkS f m 21 (z.1, z.2.1)).2)
      refine ⟨D', e2, e3, fun k h1 h2 => (e4 k h1 h2).trans (a3 k h1 h2), fun fuel => ?_⟩
      rw [show fuel + (m + 1) = fuel + 1 + m by omega, a4]
      refine iter_st ?_ fuel
      show F_X12_passesDay_l18 59 (nI z.2.1) (nI m) (dM h f z.1 z.2.2.1 D) = _
      unfold F_X12_passesDay_l18
      rw [nl_1000, if_neg (nI_ge (by omega) (by omega))]
      refine (ob_p wa _).trans ?_
      exact e1
  obtain ⟨D, a1, a2, a3, a4⟩ := run 1000 (Nat.le_refl _)
  refine ⟨D, a1, a2, a3, ?_⟩
  have hF : FU = 999998999 + 1 + 1000 := rfl
  rw [hF, a4]
  refine iter_en ?_ _
  show F_X12_passesDay_l18 59 _ (nI 1000) _ = _
  unfold F_X12_passesDay_l18
  rw [nl_1000, if_pos (Int32.le_refl _)]
theorem m_pass (s : Sh h) (e60 : zI h 60 = f) (i : Inv f) : ∃ D, D 17 = nI (dyR f (seS h f) (trT f) 1000).2.2.2.1 ∧ D 18 = (dyR f (seS h f) (trT f) 1000).2.2.2.2 ∧ (∀ k, k ≠ 17 → k ≠ 18 → D k = zI h 59 k) ∧ F_X12_passesDay 59 h = some ((), dM h f (dyR f (seS h f) (trT f) 1000).1 (dyR f (seS h f) (trT f) 1000).2.2.1 D) := by
  have i' : Inv (zI h 60) := by rw [e60]; exact i
  obtain ⟨D, a1, a2, a3, a4⟩ := m_passL s i (S0 := seS h f) (T0 := trT f) (D0 := va_up (va_up (zI h 59) 17 0) 18 (-1)) (seS_ok i) (trT_ok i) (by rw [va_n _ _ _ _ (by decide), va_e]) (va_e _ _ _)
  refine ⟨D, a1, a2, fun k h1 h2 => ?_, ?_⟩
  · rw [a3 k h1 h2, va_n _ _ _ _ h2, va_n _ _ _ _ h1]
  · have eh : setI (setI (hSit h) 59 17 0) 59 18 (-1) = dM h f (seS h f) (trT f) (va_up (va_up (zI h 59) 17 0) 18 (-1)) := by
      unfold dM
      rw [dyF_id (T := trT f) (fun t _ => rfl)]
      unfold hSit seS
      rw [setI_w, setI_w, wI_I, wI_I, wI_w, wI_w, e60]
      congr 1
      funext a
      by_cases h1 : a = 59
      · subst h1
        rw [up2_v1, up2_v1, va_n _ _ _ _ (by decide), va_e]
      · rw [up2_a _ _ _ _ _ h1, up2_a _ _ _ _ _ h1, va_n _ _ _ _ h1]
        by_cases h2 : a = 60
        · subst h2
          rw [va_e, va_n _ _ _ _ (by decide), e60]
        · rw [va_n _ _ _ _ h2]
    have sS : Sh (hSit h) := s
    unfold F_X12_passesDay F_X12_passesDay_b0
    rw [m_sits s i', ob2_s, gd_d (k59 s), gd_d (k59 sS), eh]
    exact ob_p a4 _
theorem r59_19 (s : Sh h) : zR h 59 19 = some 68 := by unfold Sh at s; simp only [s]
theorem k68 (s : Sh h) : kd h 68 = 13 := by unfold Sh at s; simp only [s]
theorem l68 (s : Sh h) : zl h 68 = 6 := by unfold Sh at s; simp only [s]
/-- where the trunks lie is kept -/
theorem m_dayK (s : Sh h) (v : Int32) : iter (fun z : Int32 × Hp => F_X12_day_l31 59 v z.1 z.2) FU (0, h) = some (stH h 68 (fillF (trT (zI h 60)) (zI h 68) 6)) := by
  refine iter_at (fun j => (nI j, stH h 68 (fillF (trT (zI h 60)) (zI h 68) j))) 6 _ ?_ (fun j hj => ?_) ?_ (FU_lt (by omega))
  · rw [fill_0, stH_0]
    rfl
  · show F_X12_day_l31 59 v (nI j) (stH h 68 (fillF (trT (zI h 60)) (zI h 68) j)) = _
    have s' : Sh (stH h 68 (fillF (trT (zI h 60)) (zI h 68) j)) := s
    unfold F_X12_day_l31
    rw [nl_6, if_neg (nI_ge hj (by omega)), gd_d (k59 s'), r59_19 s', ob_s, m_ofI s' (by omega), ob_s, gd_d (k68 s'), l68 s', ix_t hj (by omega), gd_t, ncl (by omega), stH_o (by decide), nI_1, stH_w]
    congr 4
    funext k
    by_cases e : k = j
    · subst e
      rw [va_e, fill_in (by omega)]
      rfl
    · rw [va_n _ _ _ _ e]
      unfold fillF
      by_cases q : k < j
      · rw [if_pos q, if_pos (by omega)]
      · rw [if_neg q, if_neg (by omega)]
  · show F_X12_day_l31 59 v (nI 6) _ = _
    unfold F_X12_day_l31
    rw [nl_6, if_pos (Int32.le_refl _)]
theorem m_dayB (s : Sh h) {S T D W : Nat → Int32} (w : ∀ t, t < 6 → zI h 68 t = W t) (v : Int32) : iter (fun z : Int32 × Hp => F_X12_day_l114 59 v z.1 z.2) FU (0, dM h f S T D) = some (dM h f S (fillF W T 6) D) := by
  refine iter_at (fun j => (nI j, dM h f S (fillF W T j) D)) 6 _ (by rw [fill_0]; rfl) (fun j hj => ?_) ?_ (FU_lt (by omega))
  · show F_X12_day_l114 59 v (nI j) (dM h f S (fillF W T j) D) = _
    have s' : Sh (dM h f S (fillF W T j) D) := s
    have ea : (((53 : Int32) + ((3 : Int32) * nI j)) + (2 : Int32)) = nI (55 + 3 * j) := by
      rw [nl_53, nl_3, nl_2, nmul, nadd, nadd]
      congr 1
      omega
    unfold F_X12_day_l114
    rw [nl_6, if_neg (nI_ge hj (by omega)), gd_d (k59 s'), r59_1 s', ob_s, r59_19 s', ob_s, gd_d (k68 s'), l68 s', ix_t hj (by omega), gd_t, gd_d (k60 s'), ea, l60 s', ix_t (by omega) (by omega), gd_t, ncl (by omega), ncl (by omega), dM_o (by decide) (by decide) (by decide), w j hj, dM_w60 hj, nI_1]
    congr 4
    funext k
    by_cases e : k = j
    · subst e
      rw [va_e, fill_in (by omega)]
    · rw [va_n _ _ _ _ e]
      unfold fillF
      by_cases q : k < j
      · rw [if_pos q, if_pos (by omega)]
      · rw [if_neg q, if_neg (by omega)]
  · show F_X12_day_l114 59 v (nI 6) _ = _
    unfold F_X12_day_l114
    rw [nl_6, if_pos (Int32.le_refl _)]
def dayS (f : Nat → Int32) (z : DS) (w : Int32) : Int32 := if w = 0 then z.2.2.2.2 else if w = 1 then nI z.2.2.2.1 else if w = 2 then nI (numS (cf z.1) (nG f)) else if nT f = 0 then -1 else z.2.2.1 0
theorem m_day (s : Sh h) (e60 : zI h 60 = f) (i : Inv f) (w : Int32) : (isIn w 4 = false → F_X12_day 59 w h = some (0, tk h 1)) ∧ (isIn w 4 = true → ∃ J, MN (zI h) J ∧ J 59 0 = 0 ∧ F_X12_day 59 w h = some (dayS f (dyR f (seS (t0 h) f) (trT f) 1000) w, wI h J)) := by
  have t6 := iT6 i
  have e3 : ∀ H : Hp, F_X12_in w 0 3 H = some (b2 (isIn w 4)) := fun H => m_inN (n := 4) (by omega) rfl
  constructor
  · intro q
    unfold F_X12_day F_X12_day_b0 F_X12_day_b20
    rw [gd_d (k59 s), t0_d, e3, ob_s, q, b2_f, if_pos rfl, m_thr1 (t0_s s), ob2_s, gd_d (k59 (t0_s s)), if_neg (by decide)]
    rfl
  · intro q
    have sK : Sh (stH (t0 h) 68 (fillF (trT (zI (t0 h) 60)) (zI (t0 h) 68) 6)) := s
    have eK : zI (stH (t0 h) 68 (fillF (trT (zI (t0 h) 60)) (zI (t0 h) 68) 6)) 60 = f := by rw [stH_o (by decide), t0_60, e60]
    have eS : seS (stH (t0 h) 68 (fillF (trT (zI (t0 h) 60)) (zI (t0 h) 68) 6)) f = seS (t0 h) f := by
      unfold seS
      rw [stH_o (by decide)]
    obtain ⟨D, a1, a2, a3, a4⟩ := m_pass sK eK i
    rw [eS] at a1 a2 a4
    have inv := dyR_i i (S0 := seS (t0 h) f) (T0 := trT f) (seS_ok i) (trT_ok i) 1000 (Nat.le_refl _)
    generalize hz : dyR f (seS (t0 h) f) (trT f) 1000 = z at *
    obtain ⟨i1, i2, i3, i4, i5, i6, i7⟩ := inv
    have bk := fun v => m_dayB (f := f) sK (S := z.1) (T := z.2.2.1) (D := D) (W := trT f) (fun t ht => by
      rw [stH_e, fill_in ht, t0_60, e60]) v
    have eB : dyF f (fillF (trT f) z.2.2.1 6) = f := dyF_id (fun t ht => by rw [fill_in ht]; rfl)
    refine ⟨zI (dM (stH (t0 h) 68 (fillF (trT (zI (t0 h) 60)) (zI (t0 h) 68) 6)) f z.1 (fillF (trT f) z.2.2.1 6) D), fun a k hn => ?_, ?_, ?_⟩
    · by_cases h59 : a = 59
      · subst h59
        rw [dM_59, a3 k (by unfold mNo at hn; omega) (by unfold mNo at hn; omega), stH_o (by decide)]
        exact t0_m 59 k hn
      · by_cases h60 : a = 60
        · subst h60
          rw [dM_60, eB, e60]
        · rw [dM_o (by unfold mNo at hn; omega) h60 h59, stH_o (by unfold mNo at hn; omega), t0_o h59]
    · rw [dM_59, a3 0 (by decide) (by decide), stH_o (by decide)]
      exact t0_z
    · have sM : Sh (dM (stH (t0 h) 68 (fillF (trT (zI (t0 h) 60)) (zI (t0 h) 68) 6)) f z.1 z.2.2.1 D) := s
      have told : F_X12_told 59 (dM (stH (t0 h) 68 (fillF (trT (zI (t0 h) 60)) (zI (t0 h) 68) 6)) f z.1 z.2.2.1 D) = some (nI (numS (cf z.1) (nG f))) := by
        have := m_told sM (by rw [dM_60]; exact dyF_i i i3) (dM_seat (T := z.2.2.1) (D := D) i i1)
        rw [dM_60, (@dyF_n f z.2.2.1).2.1] at this
        exact this
      have ks : iter (fun y : Int32 × Hp => F_X12_day_l31 59 w y.1 y.2) FU (0, t0 h) = some (stH (t0 h) 68 (fillF (trT (zI (t0 h) 60)) (zI (t0 h) 68) 6)) := m_dayK (t0_s s) w
      have b111 : ∀ v, F_X12_day_b111 59 v (dM (stH (t0 h) 68 (fillF (trT (zI (t0 h) 60)) (zI (t0 h) 68) 6)) f z.1 z.2.2.1 D) = some (v, dM (stH (t0 h) 68 (fillF (trT (zI (t0 h) 60)) (zI (t0 h) 68) 6)) f z.1 (fillF (trT f) z.2.2.1 6) D) := fun v => by
        unfold F_X12_day_b111
        exact ob_p (bk v) _
      have e2 : zI (dM (stH (t0 h) 68 (fillF (trT (zI (t0 h) 60)) (zI (t0 h) 68) 6)) f z.1 z.2.2.1 D) 60 2 = nI (nT f) := by rw [dM_60, dyF_o (fun t _ => by omega), iT i]
      have ot : F_X12_ofTrunk 59 0 2 (dM (stH (t0 h) 68 (fillF (trT (zI (t0 h) 60)) (zI (t0 h) 68) 6)) f z.1 z.2.2.1 D) = some (z.2.2.1 0) := by
        have := m_ofI sM (t := 0) (by omega)
        rw [dM_60, show 55 + 3 * 0 = 55 + 3 * 0 from rfl, dyF_t (by omega)] at this
        exact this
      unfold F_X12_day F_X12_day_b0 F_X12_day_b20
      rw [gd_d (k59 s), t0_d, e3, ob_s, q, b2_t, if_neg (by decide), m_thr0 (t0_s s), ob2_s, gd_d (k59 (t0_s s)), if_pos rfl]
      refine (ob_p ks _).trans ?_
      rw [a4, ob2_s, gd_d (k59 sK), gd_d (k59 sM), gd_d (k59 sM), told, ob_s, gd_d (k59 sM), m_trunks sM, ob_s, gd_d (k59 sM), e2, ot, ob_s, dM_59, a1, a2, b111, b111, b111, b111, b111]
      unfold dayS
      rcases in4 q with rfl | rfl | rfl | rfl
      · rw [if_pos rfl, if_pos rfl]
        rfl
      · rw [if_neg (by decide), if_pos rfl, if_neg (by decide), if_pos rfl]
        rfl
      · rw [if_neg (by decide), if_neg (by decide), if_pos rfl, if_neg (by decide), if_neg (by decide), if_pos rfl]
        rfl
      · have n0 : ((3 : Int32) = 0) = False := eq_false (by decide)
        have n1 : ((3 : Int32) = 1) = False := eq_false (by decide)
        have n2 : ((3 : Int32) = 2) = False := eq_false (by decide)
        by_cases p : nT f = 0
        · simp only [n0, n1, n2, p, show (nI 0 ≤ 0) = True from eq_true (by decide), gd_t, ob_s, ob2_s, ob4_s, sm_l, sm_r, ac_s, decide_true, decide_false, eq_self, ne_eq, not_false_eq_true, not_true_eq_false, if_true, if_false, ite_true, ite_false, reduceIte, or_true, true_or, or_false, false_or, and_true, true_and, Bool.false_eq_true, reduceCtorEq]
          rfl
        · have p2 : (nI (nT f) ≤ 0) = False := eq_false (nI_nle (by omega) (by omega))
          simp only [n0, n1, n2, p, p2, gd_t, ob_s, ob2_s, ob4_s, sm_l, sm_r, ac_s, decide_true, decide_false, eq_self, ne_eq, not_false_eq_true, not_true_eq_false, if_true, if_false, ite_true, ite_false, reduceIte, or_true, true_or, or_false, false_or, and_true, true_and, Bool.false_eq_true, reduceCtorEq]
          rfl
end DAYP
