/-! THE REFERENCE'S ORDER OF SEATINGS; THE WALK'S START -/
theorem dall_s (p : Nat → Prop) [DecidablePred p] (j : Nat) : decide (∀ k, k < j + 1 → p k) = (decide (∀ k, k < j → p k) && decide (p j)) := by
  rw [← Bool.decide_and]
  exact decide_eq_decide.mpr ⟨fun h => ⟨fun k hk => h k (by omega), h j (by omega)⟩, fun h k hk => by
    by_cases e : k = j
    · subst e
      exact h.2
    · exact h.1 k (by omega)⟩
section OPENS
variable {h : Hp} {f : Nat → Int32}
theorem m_many (s : Sh h) (e60 : zI h 60 = f) (i : Inv f) : F_X12_many 59 h = some (nI (8 ^ nG f)) := by
  subst e60
  have g5 := iG5 i
  unfold F_X12_many F_X12_many_b0
  refine ob_p (iter_run (fun j => (nI (8 ^ j), nI j)) (nG (zI h 60)) _ (fun j hj => ?_) ?_ (FU_lt (by omega))) _
  · show F_X12_many_l4 59 (nI (8 ^ j)) (nI j) h = _
    unfold F_X12_many_l4
    rw [m_guests s, ob_s, gd_d (k59 s), iG i, if_neg (nI_ge hj (by omega)), nl_8, nmul, nI_1, ← Nat.pow_succ]
  · show F_X12_many_l4 59 (nI (8 ^ nG (zI h 60))) (nI (nG (zI h 60))) h = _
    unfold F_X12_many_l4
    rw [m_guests s, ob_s, gd_d (k59 s), ← iG i, if_pos (Int32.le_refl _)]
theorem m_areBeds (s : Sh h) (e60 : zI h 60 = f) (i : Inv f) {sf : Nat → Nat} (hs : seated h 66 (nG f) sf) (hr : ∀ g, g < nG f → sf g < nR f) : F_X12_areBeds 59 h = some (b2 (decide (∀ k, k < nG f → hdS sf (nG f) (sf k) ≤ bd f (sf k)))) := by
  subst e60
  have g5 := iG5 i
  unfold F_X12_areBeds F_X12_areBeds_b0
  refine (ob_p (iter_run (fun j => (b2 (decide (∀ k, k < j → hdS sf (nG (zI h 60)) (sf k) ≤ bd (zI h 60) (sf k))), nI j)) (nG (zI h 60)) _ (fun j hj => ?_) ?_ (FU_lt (by omega))) _).trans (b2_g _ _)
  · show F_X12_areBeds_l4 59 (b2 (decide (∀ k, k < j → hdS sf (nG (zI h 60)) (sf k) ≤ bd (zI h 60) (sf k)))) (nI j) h = _
    unfold F_X12_areBeds_l4 F_X12_areBeds_b44 F_X12_areBeds_b45
    obtain ⟨h1, h2⟩ := hs j hj
    have hb := bd_eq i (hr j hj)
    have hh := hdS_le sf (nG (zI h 60)) (sf j)
    rw [m_guests s, ob_s, gd_d (k59 s), iG i, if_neg (nI_ge hj (by omega)), r59_15 s, ob_s, gd_d (k66 s), l66 s, ix_t (by omega) (by omega), gd_t, ncl (by omega), h1, m_headsIn s i hs (by omega), ob_s, ob_s, gd_d (k66 s), l66 s, ix_t (by omega) (by omega), gd_t, h1, m_ofB s (by omega), ob_s, hb.1, nI_1, dall_s (fun k => hdS sf (nG (zI h 60)) (sf k) ≤ bd (zI h 60) (sf k))]
    cases decide (∀ k, k < j → hdS sf (nG (zI h 60)) (sf k) ≤ bd (zI h 60) (sf k)) with
    | false => rw [b2_f, if_pos rfl]; rfl
    | true =>
      rw [b2_t, if_neg (by decide), Bool.true_and]
      by_cases p : hdS sf (nG (zI h 60)) (sf j) ≤ bd (zI h 60) (sf j)
      · rw [if_neg (nI_nlt p (by omega)), decide_eq_true p]
        rfl
      · rw [if_pos (nI_lt (by omega) (by omega)), decide_eq_false p]
        rfl
  · show F_X12_areBeds_l4 59 _ (nI (nG (zI h 60))) h = _
    unfold F_X12_areBeds_l4
    rw [m_guests s, ob_s, gd_d (k59 s), ← iG i, if_pos (Int32.le_refl _)]
/-- the seats as the i-th order has them -/
def opF (f : Nat → Int32) (i : Nat) (old : Nat → Int32) : Nat → Int32 := fillF (fun g => nI (dg (nG f) i g)) old (nG f)
theorem op_seat {y : Nat} {old : Nat → Int32} : seated (stH h 66 (opF f y old)) 66 (nG f) (dg (nG f) y) := fun g hg => by
  rw [stH_e]
  exact ⟨fill_in hg, dg_lt _ _ _⟩
theorem m_opens (s : Sh h) (e60 : zI h 60 = f) (i : Inv f) {y : Nat} (hy : y < 8 ^ nG f) : F_X12_opens 59 (nI y) h = some (b2 (vI f y), stH h 66 (opF f y (zI h 66))) := by
  have g5 := iG5 i
  have r8 := iR8 i
  have p8 := pow8 g5
  have hd : ∀ t, y / 8 ^ t ≤ y := fun t => Nat.div_le_self _ _
  unfold F_X12_opens F_X12_opens_b0
  rw [m_guests s, ob_s, gd_d (k59 s), e60, iG i]
  refine (ob_p (iter_at (fun t => (nI (y / 8 ^ t), b2 (decide (∀ k, k < t → dg (nG f) y (nG f - 1 - k) < nR f)), nI (nG f - t) - 1, stH h 66 (fun g => if nG f - t ≤ g ∧ g < nG f then nI (dg (nG f) y g) else zI h 66 g))) (nG f) (b2 (decide (∀ k, k < nG f → dg (nG f) y (nG f - 1 - k) < nR f)), stH h 66 (opF f y (zI h 66))) ?_ (fun t ht => ?_) ?_ (FU_lt (by omega))) _).trans ?_
  · have e1 : (fun g => if nG f - 0 ≤ g ∧ g < nG f then nI (dg (nG f) y g) else zI h 66 g) = zI h 66 := by
      funext g
      rw [if_neg (by omega)]
    rw [e1, stH_0, Nat.pow_zero, Nat.div_one, Nat.sub_zero, decide_eq_true (fun k hk => absurd hk (Nat.not_lt_zero k))]
    rfl
  · obtain ⟨m, hm⟩ : ∃ m, nG f - t = m + 1 := ⟨nG f - t - 1, by omega⟩
    have ed : dg (nG f) y m = y / 8 ^ t % 8 := by
      unfold dg
      rw [show nG f - 1 - m = t by omega]
    have hy2 := hd t
    have ew : setI (stH h 66 (fun g => if nG f - t ≤ g ∧ g < nG f then nI (dg (nG f) y g) else zI h 66 g)) 66 m (nI (y / 8 ^ t % 8)) = stH h 66 (fun g => if nG f - (t + 1) ≤ g ∧ g < nG f then nI (dg (nG f) y g) else zI h 66 g) := by
      rw [stH_w]
      congr 1
      funext g
      by_cases e : g = m
      · subst e
        rw [va_e, if_pos (by omega), ed]
      · rw [va_n _ _ _ _ e]
        by_cases p : nG f - t ≤ g ∧ g < nG f
        · rw [if_pos p, if_pos (by omega)]
        · rw [if_neg p, if_neg (by omega)]
    have s' : ∀ S, Sh (stH h 66 S) := fun S => s
    have er : F_X12_rooms 59 (stH h 66 (fun g => if nG f - (t + 1) ≤ g ∧ g < nG f then nI (dg (nG f) y g) else zI h 66 g)) = some (nI (nR f)) := by
      rw [m_rooms (s' _), stH_o (by decide), e60, iR i]
    show F_X12_opens_l12 59 (nI (y / 8 ^ t)) (b2 (decide (∀ k, k < t → dg (nG f) y (nG f - 1 - k) < nR f))) (nI (nG f - t) - 1) (stH h 66 (fun g => if nG f - t ≤ g ∧ g < nG f then nI (dg (nG f) y g) else zI h 66 g)) = _
    unfold F_X12_opens_l12 F_X12_opens_b55 F_X12_opens_b56
    rw [hm, nI_pred, if_neg (nI_pos (by omega)), gd_d (k59 (s' _)), r59_15 (s' _), ob_s, gd_d (k66 (s' _)), l66 (s' _), ix_t (by omega) (by omega), gd_t, nl_8, pk_rem (by omega) (by omega) (by omega), pk_div (by omega) (by omega) (by omega), ncl (by omega), ← hm, ew, r59_15 (s' _), ob_s, gd_d (k66 (s' _)), l66 (s' _), ix_t (by omega) (by omega), gd_t, er, ob_s, stH_e, if_pos (show nG f - (t + 1) ≤ m ∧ m < nG f by omega), dall_s (fun k => dg (nG f) y (nG f - 1 - k) < nR f), show nG f - 1 - t = m by omega, Nat.div_div_eq_div_mul, ← Nat.pow_succ]
    have em : nI m + (-1) = nI (nG f - (t + 1)) - 1 := by
      rw [show nG f - (t + 1) = m by omega, Int32.sub_eq_add_neg]
    have dl := dg_lt (nG f) y m
    cases decide (∀ k, k < t → dg (nG f) y (nG f - 1 - k) < nR f) with
    | false =>
      rw [b2_f, if_pos rfl, em]
      rfl
    | true =>
      rw [b2_t, if_neg (by decide), Bool.true_and]
      by_cases p : dg (nG f) y m < nR f
      · rw [if_neg (nI_ge p (by omega)), decide_eq_true p, em]
        rfl
      · rw [if_pos (nI_le (by omega) (by omega)), decide_eq_false p, em]
        rfl
  · have ee : (fun g => if nG f - nG f ≤ g ∧ g < nG f then nI (dg (nG f) y g) else zI h 66 g) = opF f y (zI h 66) := by
      funext g
      unfold opF fillF
      by_cases p : g < nG f
      · rw [if_pos p, if_pos (by omega)]
      · rw [if_neg p, if_neg (by omega)]
    show F_X12_opens_l12 59 (nI (y / 8 ^ nG f)) (b2 (decide (∀ k, k < nG f → dg (nG f) y (nG f - 1 - k) < nR f))) (nI (nG f - nG f) - 1) (stH h 66 (fun g => if nG f - nG f ≤ g ∧ g < nG f then nI (dg (nG f) y g) else zI h 66 g)) = _
    rw [ee]
    unfold F_X12_opens_l12
    rw [Nat.sub_self, if_pos (by decide)]
  · have e : decide (∀ k, k < nG f → dg (nG f) y (nG f - 1 - k) < nR f) = decide (∀ k, k < nG f → dg (nG f) y k < nR f) := decide_eq_decide.mpr ⟨fun q k hk => by
      have := q (nG f - 1 - k) (by omega)
      rw [show nG f - 1 - (nG f - 1 - k) = k by omega] at this
      exact this, fun q k hk => q _ (by omega)⟩
    have s' : Sh (stH h 66 (opF f y (zI h 66))) := s
    show (if b2 (decide (∀ k, k < nG f → dg (nG f) y (nG f - 1 - k) < nR f)) = 0 then _ else _) = _
    rw [e]
    by_cases p : ∀ k, k < nG f → dg (nG f) y k < nR f
    · rw [decide_eq_true p, b2_t, if_neg (by decide), m_areBeds s' (by rw [stH_o (by decide), e60]) i op_seat p, ob_s, gd_d (k59 s')]
      have ev : vI f y = decide (∀ k, k < nG f → hdS (dg (nG f) y) (nG f) (dg (nG f) y k) ≤ bd f (dg (nG f) y k)) := decide_eq_decide.mpr ⟨fun q k hk => (q k hk).2, fun q k hk => ⟨p k hk, q k hk⟩⟩
      rw [ev]
      unfold F_X12_opens_b78 F_X12_opens_b79
      cases decide (∀ k, k < nG f → hdS (dg (nG f) y) (nG f) (dg (nG f) y k) ≤ bd f (dg (nG f) y k)) with
      | false => rfl
      | true => rfl
    · have ev : vI f y = false := decide_eq_false (fun q => p (fun k hk => (q k hk).1))
      rw [decide_eq_false p, b2_f, if_pos rfl, ev]
      rfl
theorem m_isLevel' (s : Sh h) (e60 : zI h 60 = f) (i : Inv f) {sf : Nat → Nat} (hs : seated h 66 (nG f) sf) : F_X12_isLevel 59 h = some (b2 (levS f (netS f 0 sf) (netS f 1 sf) (tin f))) := by
  subst e60
  exact m_isLevel s i hs
theorem m_net' (s : Sh h) (e60 : zI h 60 = f) (i : Inv f) {b : Nat} (hb : b < 2) {sf : Nat → Nat} (hs : seated h 66 (nG f) sf) : F_X12_net 59 (nI b) h = some (netS f b sf) := by
  subst e60
  exact m_net s i hb hs
theorem m_told' (s : Sh h) (e60 : zI h 60 = f) (i : Inv f) {sf : Nat → Nat} (hs : seated h 66 (nG f) sf) : F_X12_told 59 h = some (nI (numS sf (nG f))) := by
  subst e60
  exact m_told s i hs
/-- the seats behind the first j orders -/
def sqT (f old : Nat → Int32) : Nat → Nat → Int32
  | 0 => old
  | j + 1 => opF f j (sqT f old j)
-- the class's side: how the walk begins, and what it tells
theorem x_start (s' : Sh h) (i : Inv f) (c : HR (zI h) 3 f) {q : Nat} (hq : q < 8) : ∃ D S H, F_X9_start 45 3 (nI q) h = some ((), wK h D S H) ∧ wA f q D S H 0 := by
  have sK : ∀ D S H, Sh (wK h D S H) := fun D S H => s'
  have l1 : iter (fun z : Int32 × Hp => F_X9_start_l7 45 3 (nI q) z.1 z.2) FU (0, wK h (va_up (zI h 45) 2 1) (zI h 46) (zI h 47)) = some (wK h (va_up (zI h 45) 2 1) (fillF (fun _ => -1) (zI h 46) 5) (zI h 47)) := by
    refine iter_at (fun j => (nI j, wK h (va_up (zI h 45) 2 1) (fillF (fun _ => -1) (zI h 46) j) (zI h 47))) 5 _ (by rw [fill_0]; rfl) (fun j hj => ?_) ?_ (FU_lt (by omega))
    · show F_X9_start_l7 45 3 (nI q) (nI j) _ = _
      unfold F_X9_start_l7
      rw [nl_5, if_neg (nI_ge hj (by omega)), wK_k, gd_d (k45 s'), wK_r, r45_0 s', ob_s, wK_k, gd_d (k46 s'), wK_l, l46 s', ix_t hj (by omega), gd_t, ncl (by omega), wK_w46, nI_1]
      congr 4
      funext k
      by_cases e : k = j
      · subst e
        rw [va_e, fill_in (by omega)]
      · rw [va_n _ _ _ _ e]
        unfold fillF
        by_cases p : k < j
        · rw [if_pos p, if_pos (by omega)]
        · rw [if_neg p, if_neg (by omega)]
    · show F_X9_start_l7 45 3 (nI q) (nI 5) _ = _
      unfold F_X9_start_l7
      rw [nl_5, if_pos (Int32.le_refl _)]
  have l2 : iter (fun z : Int32 × Hp => F_X9_start_l27 45 3 (nI q) z.1 z.2) FU (0, wK h (va_up (zI h 45) 2 1) (fillF (fun _ => -1) (zI h 46) 5) (zI h 47)) = some (wK h (va_up (zI h 45) 2 1) (fillF (fun _ => -1) (zI h 46) 5) (fillF (fun _ => 0) (zI h 47) 8)) := by
    refine iter_at (fun j => (nI j, wK h (va_up (zI h 45) 2 1) (fillF (fun _ => -1) (zI h 46) 5) (fillF (fun _ => 0) (zI h 47) j))) 8 _ (by rw [fill_0]; rfl) (fun j hj => ?_) ?_ (FU_lt (by omega))
    · show F_X9_start_l27 45 3 (nI q) (nI j) _ = _
      unfold F_X9_start_l27
      rw [nl_8, if_neg (nI_ge hj (by omega)), wK_k, gd_d (k45 s'), wK_r, r45_1 s', ob_s, wK_k, gd_d (k47 s'), wK_l, l47 s', ix_t hj (by omega), gd_t, ncl (by omega), wK_w47, nI_1]
      congr 4
      funext k
      by_cases e : k = j
      · subst e
        rw [va_e, fill_in (by omega)]
      · rw [va_n _ _ _ _ e]
        unfold fillF
        by_cases p : k < j
        · rw [if_pos p, if_pos (by omega)]
        · rw [if_neg p, if_neg (by omega)]
    · show F_X9_start_l27 45 3 (nI q) (nI 8) _ = _
      unfold F_X9_start_l27
      rw [nl_8, if_pos (Int32.le_refl _)]
  have hS : ∀ k, k < 5 → fillF (fun _ => -1) (zI h 46) 5 k = -1 := fun k hk => fill_in hk
  have hH : ∀ k, k < 8 → fillF (fun _ => 0) (zI h 47) 8 k = 0 := fun k hk => fill_in hk
  generalize fillF (fun _ => -1) (zI h 46) 5 = S at *
  generalize fillF (fun _ => 0) (zI h 47) 8 = H at *
  have e0 : setI h 45 2 1 = wK h (va_up (zI h 45) 2 1) (zI h 46) (zI h 47) := by
    have := wK_w45 (h := h) (D := zI h 45) (S := zI h 46) (H := zI h 47) (k := 2) (v := 1)
    rw [wK_0] at this
    exact this
  have cK : ∀ D, HR (zI (wK h D S H)) 3 f := fun D => wK_c i c
  have nt0 : ∀ D, F_X2_netOfThings 3 4 (nI q) (wK h D S H) = some (thg f 0 q) := fun D => x_netOfThings (sK _ _ _) i (cK D) (pl4 (sK _ _ _) (cK D)) hq
  have nt1 : ∀ D, F_X2_netOfThings 3 5 (nI q) (wK h D S H) = some (thg f 1 q) := fun D => x_netOfThings (sK _ _ _) i (cK D) (pl5 (sK _ _ _) (cK D)) hq
  have lo0 : ∀ D, F_X8_lowest 11 4 (wK h D S H) = some (lowS f 0 (tin f)) := fun D => x_lowest i (tv11 (sK _ _ _) i (cK D)) (pl4 (sK _ _ _) (cK D))
  have lo1 : ∀ D, F_X8_lowest 11 5 (wK h D S H) = some (lowS f 1 (tin f)) := fun D => x_lowest i (tv11 (sK _ _ _) i (cK D)) (pl5 (sK _ _ _) (cK D))
  have hi0 : ∀ D, F_X8_highest 11 4 (wK h D S H) = some (higS f 0 (tin f)) := fun D => x_highest i (tv11 (sK _ _ _) i (cK D)) (pl4 (sK _ _ _) (cK D))
  have hi1 : ∀ D, F_X8_highest 11 5 (wK h D S H) = some (higS f 1 (tin f)) := fun D => x_highest i (tv11 (sK _ _ _) i (cK D)) (pl5 (sK _ _ _) (cK D))
  have e12 : ∀ D, zI (wK h D S H) 3 12 = f 8 := fun D => by
    rw [wK_o (by omega)]
    exact c.1.2.2.2.2.2.2.2.2.1
  refine ⟨va_up (va_up (va_up (va_up (va_up (va_up (va_up (va_up (zI h 45) 2 1) 3 (thg f 0 q)) 4 (thg f 1 q)) 5 (lowS f 0 (tin f))) 6 (higS f 0 (tin f))) 7 (lowS f 1 (tin f))) 8 (higS f 1 (tin f))) 9 (f 8), S, H, ?_, ⟨?_, ?_, ?_, ?_, ?_⟩, Or.inl ⟨?_, rfl, ⟨pv_0 _, fun k hk => absurd hk (by omega), fun k _ hk => hS k hk, fun r hr => by rw [hH r hr]; rfl, ?_, ?_⟩, fun _ => hS 0 (by omega)⟩⟩
  · unfold F_X9_start F_X9_start_b0
    simp only [e0, l1, l2, wK_k, wK_r, wK_w45, k3 s', r3_1 s', r3_2 s', r3_9 s', k45 s', k11 s', nt0, nt1, lo0, lo1, hi0, hi1, e12, gd_t, ob_s, ob2_s, ob4_s, sm_l, sm_r, ac_s, decide_true, decide_false, eq_self, ne_eq, not_false_eq_true, not_true_eq_false, if_true, if_false, ite_true, ite_false, reduceIte, or_true, true_or, or_false, false_or, and_true, true_and, Bool.false_eq_true, reduceCtorEq]
  · simp [va_up]
  · simp [va_up]
  · simp [va_up]
  · simp [va_up]
  · simp [va_up]
  · simp [va_up]
  · simp [va_up, accN]
  · simp [va_up, accN]
theorem x_isLevelNow (s' : Sh h) {D S H : Nat → Int32} (w : wC f D) : F_X9_isLevelNow 45 (wK h D S H) = some (b2 (levS f (D 3) (D 4) (tin f))) := by
  obtain ⟨w5, w6, w7, w8, w9⟩ := w
  unfold F_X9_isLevelNow F_X9_isLevelNow_b0 F_X9_isLevelNow_b70 F_X9_isLevelNow_b71
  rw [z_g, o_g, wK_k, gd_d (k45 s'), wK_45, w5, w6, w7, w8, w9]
  unfold levS lev1
  by_cases c1 : D 3 + lowS f 0 (tin f) < 0 - f 8
  · rw [if_pos c1, decide_eq_true c1]
    rfl
  · rw [if_neg c1, decide_eq_false c1]
    by_cases c2 : f 8 < D 3 + higS f 0 (tin f)
    · rw [if_pos c2, decide_eq_true c2]
      rfl
    · rw [if_neg c2, decide_eq_false c2]
      by_cases c3 : D 4 + lowS f 1 (tin f) < 0 - f 8
      · rw [if_pos c3, decide_eq_true c3]
        rfl
      · rw [if_neg c3, decide_eq_false c3]
        by_cases c4 : f 8 < D 4 + higS f 1 (tin f)
        · rw [if_pos c4, decide_eq_true c4]
          rfl
        · rw [if_neg c4, decide_eq_false c4]
          rfl
theorem x_isAt (s' : Sh h) {D S H : Nat → Int32} (x y : Int32) : F_X9_isAt 45 x y (wK h D S H) = some (b2 (decide (D 3 = x) && decide (D 4 = y))) := by
  unfold F_X9_isAt F_X9_isAt_b0 F_X9_isAt_b20 F_X9_isAt_b21
  rw [z_g, o_g, wK_k, gd_d (k45 s'), wK_45]
  by_cases c1 : D 3 = x
  · rw [if_pos c1, decide_eq_true c1]
    by_cases c2 : D 4 = y
    · rw [if_pos c2, decide_eq_true c2]
      rfl
    · rw [if_neg c2, decide_eq_false c2]
      rfl
  · rw [if_neg c1, decide_eq_false c1]
    rfl
end OPENS
