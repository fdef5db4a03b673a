/-! WISHES: the reference's run; the call met -/
section MET2
variable {h : Hp}
def metF (f : Nat → Int32) (sf : Nat → Nat) (g : Nat) : Int32 := metV (faS f sf g) (fun k => f (147 + 817 * g + k)) (wN (fun k => f (147 + 817 * g + k)) 0)
def metA (f : Nat → Int32) (sf : Nat → Nat) (n : Nat) : Int32 := accN 0 (metF f sf) n
theorem m_hru {f : Nat → Int32} (s : Sh h) (e60 : zI h 60 = f) (i : Inv f) {sf : Nat → Nat} (hs : seated h 66 (nG f) sf) {g : Nat} (hg : g < nG f) {z w : Nat} (hz : z ≤ 400) (hw : w < 8) (ez : f (147 + 817 * g + (2 + 2 * w)) = nI z) : ∀ (n x : Nat) (st : List Int32) (ty ty' : List Bool) (M : Nat → Int32), tyR (fun k => f (147 + 817 * g + k)) x n ty = some ty' → tyV ty st → memS M st → st.length ≤ 32 → x + n ≤ z → ∃ M', memS M' (evR (faS f sf g) (fun k => f (147 + 817 * g + k)) x n st) ∧ tyV ty' (evR (faS f sf g) (fun k => f (147 + 817 * g + k)) x n st) ∧ ∀ fuel, iter (wB (nI g) (nI w) (nI (147 + 817 * g))) (fuel + n) (nI st.length, nI x, stH h 67 M) = iter (wB (nI g) (nI w) (nI (147 + 817 * g))) fuel (nI (evR (faS f sf g) (fun k => f (147 + 817 * g + k)) x n st).length, nI (x + n), stH h 67 M')
  | 0, x, st, ty, ty', M, ht, hv, hM, _, _ => by
    cases ht
    exact ⟨M, hM, hv, fun fuel => rfl⟩
  | n + 1, x, st, ty, ty', M, ht, hv, hM, h32, hb => by
    unfold tyR at ht
    cases e : tyS (f (147 + 817 * g + (17 + 2 * x))) (f (147 + 817 * g + (18 + 2 * x))) ty with
    | none =>
      simp only [e] at ht
      cases ht
    | some ty2 =>
      simp only [e, ob_s] at ht
      obtain ⟨M1, a1, a2, a3, a4⟩ := m_hst s e60 i hs hg e hv hM (show x < z by omega) hz hw ez h32
      obtain ⟨M2, b1, b2, b3⟩ := m_hru s e60 i hs hg hz hw ez n (x + 1) _ ty2 ty' M1 ht a3 a2 a4 (by omega)
      refine ⟨M2, b1, b2, fun fuel => ?_⟩
      rw [← Nat.add_assoc, iter_st a1, b3, show x + 1 + n = x + (n + 1) by omega]
      rfl
theorem wz_le {m : Nat → Int32} (ok : WOk m) {w : Nat} (hw : w < wN m 0) : wN m (2 + 2 * w) ≤ 400 := by
  obtain ⟨-, -, -, b4, -⟩ := ok.2.2 w hw
  omega
theorem m_holdsWish {f : Nat → Int32} (s : Sh h) (e60 : zI h 60 = f) (i : Inv f) {sf : Nat → Nat} (hs : seated h 66 (nG f) sf) {g : Nat} (hg : g < nG f) (ok : WOk (fun k => f (147 + 817 * g + k))) {w : Nat} (hw : w < wN (fun k => f (147 + 817 * g + k)) 0) : ∃ M b, F_X12_holdsWish 59 (nI g) (nI w) h = some (b2 b, stH h 67 M) ∧ wvV (faS f sf g) (fun k => f (147 + 817 * g + k)) w = b2 b := by
  have g5 := iG5 i
  have w8 := ok.2.1
  obtain ⟨b1, b2', b3, b4, b5, b6⟩ := ok.2.2 w hw
  have hz := wz_le ok hw
  have c1 : f (147 + 817 * g + (1 + 2 * w)) = nI (wN (fun k => f (147 + 817 * g + k)) (1 + 2 * w)) := b1
  have c2 : f (147 + 817 * g + (2 + 2 * w)) = nI (wN (fun k => f (147 + 817 * g + k)) (2 + 2 * w)) := b2'
  obtain ⟨M, r1, r2, r3⟩ := m_hru s e60 i hs hg hz (show w < 8 by omega) b2' _ _ [] [] [true] (zI h 67) b6 trivial trivial (by show 0 ≤ 32; omega) (by omega)
  obtain ⟨val, e1, e2⟩ := ty1 r2
  have ev : wvV (faS f sf g) (fun k => f (147 + 817 * g + k)) w = val := by
    unfold wvV
    rw [e1]
    rfl
  have s' : Sh (stH h 67 M) := s
  have e6 : zI (stH h 67 M) 60 = f := (stH_o (by decide)).trans e60
  have a0 : (147 : Int32) + (817 : Int32) * nI g = nI (147 + 817 * g) := by rw [nl_147, nl_817, nmul, nadd]
  have a1 : (nI (147 + 817 * g) + (1 : Int32)) + (2 : Int32) * nI w = nI (147 + 817 * g + (1 + 2 * w)) := by
    rw [nl_1, nl_2, nmul, nadd, nadd, Nat.add_assoc]
  have a2 : (nI (147 + 817 * g) + (2 : Int32)) + (2 : Int32) * nI w = nI (147 + 817 * g + (2 + 2 * w)) := by
    rw [nl_2, nmul, nadd, nadd, Nat.add_assoc]
  have loop : iter (wB (nI g) (nI w) (nI (147 + 817 * g))) FU (0, nI (wN (fun k => f (147 + 817 * g + k)) (1 + 2 * w)), h) = some (stH h 67 M) := by
    have hF : ∃ d, FU = d + 1 + (wN (fun k => f (147 + 817 * g + k)) (2 + 2 * w) - wN (fun k => f (147 + 817 * g + k)) (1 + 2 * w)) := ⟨FU - 1 - (wN (fun k => f (147 + 817 * g + k)) (2 + 2 * w) - wN (fun k => f (147 + 817 * g + k)) (1 + 2 * w)), by have : 1000000000 ≤ FU := Nat.le_refl _; omega⟩
    obtain ⟨d, hF⟩ := hF
    have es : stH h 67 (zI h 67) = h := by
      unfold stH
      rw [va_same]
      rfl
    have := r3 (d + 1)
    rw [es] at this
    rw [hF]
    refine this.trans (iter_en ?_ d)
    rw [show wN (fun k => f (147 + 817 * g + k)) (1 + 2 * w) + (wN (fun k => f (147 + 817 * g + k)) (2 + 2 * w) - wN (fun k => f (147 + 817 * g + k)) (1 + 2 * w)) = wN (fun k => f (147 + 817 * g + k)) (2 + 2 * w) by omega]
    show F_X12_holdsWish_l27 59 (nI g) (nI w) (nI (147 + 817 * g)) _ (nI (wN (fun k => f (147 + 817 * g + k)) (2 + 2 * w))) (stH h 67 M) = _
    unfold F_X12_holdsWish_l27
    rw [gd_d (k59 s'), r59_1 s', ob_s, gd_d (k60 s'), a2, l60 s', ix_t (by omega) (by omega), gd_t, ncl (by omega), e6, c2, if_pos (Int32.le_refl _)]
  refine ⟨M, decide (val = 1), ?_, ?_⟩
  · unfold F_X12_holdsWish F_X12_holdsWish_b0 F_X12_holdsWish_b294
    rw [gd_d (k59 s), r59_1 s, ob_s, gd_d (k60 s), a0, a1, l60 s, ix_t (by omega) (by omega), gd_t, ncl (by omega), e60, c1]
    refine (ob_p loop _).trans ?_
    rw [e1] at r1
    have em : M 0 = val := r1.1
    rw [gd_d (k59 s'), r59_16 s', ob_s, gd_d (k67 s'), l67 s', show ix (0 : Int32) 400 = true by decide, gd_t, stH_e, show (0 : Int32).toNatClampNeg = 0 by decide, em, z_g, o_g]
    by_cases q : val = 1
    · rw [if_pos q, decide_eq_true q]; rfl
    · rw [if_neg q, decide_eq_false q]; rfl
  · rw [ev]
    rcases e2 with rfl | rfl <;> rfl
theorem stH_st {C : Nat} {M N : Nat → Int32} : stH (stH h C M) C N = stH h C N := by
  unfold stH
  rw [wI_w, wI_I]
  congr 1
  funext a
  by_cases q : a = C
  · subst q
    rw [va_e, va_e]
  · rw [va_n _ _ _ _ q, va_n _ _ _ _ q, va_n _ _ _ _ q]
theorem stH_0 {C : Nat} : stH h C (zI h C) = h := by
  unfold stH
  rw [va_same]
  rfl
theorem m_metBy {f : Nat → Int32} (s : Sh h) (e60 : zI h 60 = f) (i : Inv f) {sf : Nat → Nat} (hs : seated h 66 (nG f) sf) {g : Nat} (hg : g < nG f) (ok : WOk (fun k => f (147 + 817 * g + k))) : ∃ M, F_X12_metBy 59 (nI g) h = some (metF f sf g, stH h 67 M) := by
  have g5 := iG5 i
  have w8 := ok.2.1
  have a0 : (147 : Int32) + (817 : Int32) * nI g = nI (147 + 817 * g) := by rw [nl_147, nl_817, nmul, nadd]
  have run : ∀ w, w ≤ wN (fun k => f (147 + 817 * g + k)) 0 → ∃ M, ∀ fuel, iter (fun z : Int32 × Int32 × Hp => F_X12_metBy_l4 59 (nI g) z.1 z.2.1 z.2.2) (fuel + w) (0, 0, h) = iter (fun z : Int32 × Int32 × Hp => F_X12_metBy_l4 59 (nI g) z.1 z.2.1 z.2.2) fuel (metV (faS f sf g) (fun k => f (147 + 817 * g + k)) w, nI w, stH h 67 M) := by
    intro w
    induction w with
    | zero => intro _; exact ⟨zI h 67, fun fuel => by rw [stH_0]; rfl⟩
    | succ v ih =>
      intro hv
      obtain ⟨M, run⟩ := ih (by omega)
      have s' : Sh (stH h 67 M) := s
      have e6 : zI (stH h 67 M) 60 = f := (stH_o (by decide)).trans e60
      have hs' : seated (stH h 67 M) 66 (nG f) sf := fun j hj => by
        rw [stH_o (by decide)]
        exact hs j hj
      obtain ⟨M2, b, q1, q2⟩ := m_holdsWish s' e6 i hs' hg ok (show v < wN (fun k => f (147 + 817 * g + k)) 0 by omega)
      rw [stH_st] at q1
      refine ⟨M2, fun fuel => ?_⟩
      rw [show fuel + (v + 1) = fuel + 1 + v by omega, run]
      refine iter_st ?_ fuel
      show F_X12_metBy_l4 59 (nI g) _ (nI v) (stH h 67 M) = some (.inl (metV (faS f sf g) (fun k => f (147 + 817 * g + k)) v + wvV (faS f sf g) (fun k => f (147 + 817 * g + k)) v, _, _))
      unfold F_X12_metBy_l4 F_X12_metBy_b37
      rw [gd_d (k59 s'), r59_1 s', ob_s, gd_d (k60 s'), a0, l60 s', ix_t (by omega) (by omega), gd_t, ncl (by omega), e6, show f (147 + 817 * g) = nI (wN (fun k => f (147 + 817 * g + k)) 0) from ok.1, if_neg (nI_ge (by omega) (by omega)), q1, ob2_s, q2, nI_1]
      cases b <;> rfl
  obtain ⟨M, run⟩ := run _ (Nat.le_refl _)
  refine ⟨M, ?_⟩
  unfold F_X12_metBy F_X12_metBy_b0
  have hF : ∃ d, FU = d + 1 + wN (fun k => f (147 + 817 * g + k)) 0 := ⟨FU - 1 - wN (fun k => f (147 + 817 * g + k)) 0, by have : 1000000000 ≤ FU := Nat.le_refl _; omega⟩
  obtain ⟨d, hF⟩ := hF
  refine (ob_p (a := (metF f sf g, stH h 67 M)) ?_ _).trans rfl
  rw [hF]
  refine (run (d + 1)).trans (iter_en ?_ d)
  have s' : Sh (stH h 67 M) := s
  have e6 : zI (stH h 67 M) 60 = f := (stH_o (by decide)).trans e60
  show F_X12_metBy_l4 59 (nI g) _ (nI (wN (fun k => f (147 + 817 * g + k)) 0)) (stH h 67 M) = _
  unfold F_X12_metBy_l4
  rw [gd_d (k59 s'), r59_1 s', ob_s, gd_d (k60 s'), a0, l60 s', ix_t (by omega) (by omega), gd_t, ncl (by omega), e6, show f (147 + 817 * g) = nI (wN (fun k => f (147 + 817 * g + k)) 0) from ok.1, if_pos (Int32.le_refl _)]
  rfl
theorem m_metByAll {f : Nat → Int32} (s : Sh h) (e60 : zI h 60 = f) (i : Inv f) {sf : Nat → Nat} (hs : seated h 66 (nG f) sf) (ok : ∀ g, g < nG f → WOk (fun k => f (147 + 817 * g + k))) : ∃ M, F_X12_metByAll 59 h = some (metA f sf (nG f), stH h 67 M) := by
  have g5 := iG5 i
  have run : ∀ w, w ≤ nG f → ∃ M, ∀ fuel, iter (fun z : Int32 × Int32 × Hp => F_X12_metByAll_l4 59 z.1 z.2.1 z.2.2) (fuel + w) (0, 0, h) = iter (fun z : Int32 × Int32 × Hp => F_X12_metByAll_l4 59 z.1 z.2.1 z.2.2) fuel (metA f sf w, nI w, stH h 67 M) := by
    intro w
    induction w with
    | zero => intro _; exact ⟨zI h 67, fun fuel => by rw [stH_0]; rfl⟩
    | succ v ih =>
      intro hv
      obtain ⟨M, run⟩ := ih (by omega)
      have s' : Sh (stH h 67 M) := s
      have e6 : zI (stH h 67 M) 60 = f := (stH_o (by decide)).trans e60
      have hs' : seated (stH h 67 M) 66 (nG f) sf := fun j hj => by
        rw [stH_o (by decide)]
        exact hs j hj
      obtain ⟨M2, q1⟩ := m_metBy s' e6 i hs' (show v < nG f by omega) (ok v (by omega))
      rw [stH_st] at q1
      refine ⟨M2, fun fuel => ?_⟩
      rw [show fuel + (v + 1) = fuel + 1 + v by omega, run]
      refine iter_st ?_ fuel
      show F_X12_metByAll_l4 59 _ (nI v) (stH h 67 M) = _
      unfold F_X12_metByAll_l4
      rw [m_guests s', ob_s, gd_d (k59 s'), e6, iG i, if_neg (nI_ge (by omega) (by omega)), q1, ob2_s, nI_1]
      rfl
  obtain ⟨M, run⟩ := run _ (Nat.le_refl _)
  refine ⟨M, ?_⟩
  unfold F_X12_metByAll F_X12_metByAll_b0
  have hF : ∃ d, FU = d + 1 + nG f := ⟨FU - 1 - nG f, by have : 1000000000 ≤ FU := Nat.le_refl _; omega⟩
  obtain ⟨d, hF⟩ := hF
  refine (ob_p (a := (metA f sf (nG f), stH h 67 M)) ?_ _).trans rfl
  rw [hF]
  refine (run (d + 1)).trans (iter_en ?_ d)
  have s' : Sh (stH h 67 M) := s
  have e6 : zI (stH h 67 M) 60 = f := (stH_o (by decide)).trans e60
  show F_X12_metByAll_l4 59 _ (nI (nG f)) (stH h 67 M) = _
  unfold F_X12_metByAll_l4
  rw [m_guests s', ob_s, gd_d (k59 s'), e6, iG i, if_pos (Int32.le_refl _)]
end MET2
