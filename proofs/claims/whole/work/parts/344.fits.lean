/-! THE CALLS fits, meeting -/
section FITS
variable {h : Hp} {f : Nat → Int32}
theorem m_noReading (s : Sh h) (i : Inv (zI h 60)) (v : Int32) : F_X12_noReading 59 v h = some (b2 (!isIn v (nD (zI h 60)))) := by
  unfold F_X12_noReading F_X12_noReading_b0 F_X12_noReading_b21
  have d8 := iD8 i
  rw [gd_d (k59 s), r59_1 s, ob_s, gd_d (k60 s), l60 s, nl_5, ix_t (by omega) (by omega), gd_t, ncl (by omega), iD i, m_in, ob_s, isIn_eq (by omega), z_g, o_g]
  cases isIn v (nD (zI h 60)) <;> rfl
/-- the i-th order fits the k-th reading -/
def rI (f : Nat → Int32) (k y : Nat) : Bool := vI f y && (decide (netS f 0 (dg (nG f) y) = f (131 + 2 * k)) && decide (netS f 1 (dg (nG f) y) = f (132 + 2 * k)))
theorem m_isRead (s : Sh h) (e60 : zI h 60 = f) (i : Inv f) {y k : Nat} (hy : y < 8 ^ nG f) (hk : k < 8) : F_X12_isRead 59 (nI y) (nI k) h = some (b2 (rI f k y), stH h 66 (opF f y (zI h 66))) := by
  unfold F_X12_isRead F_X12_isRead_b0 F_X12_isRead_b54 F_X12_isRead_b55
  have s' : Sh (stH h 66 (opF f y (zI h 66))) := s
  have e60' : zI (stH h 66 (opF f y (zI h 66))) 60 = f := by rw [stH_o (by decide), e60]
  have n0 : F_X12_net 59 0 (stH h 66 (opF f y (zI h 66))) = some (netS f 0 (dg (nG f) y)) := m_net' s' e60' i (b := 0) (by omega) op_seat
  have n1 : F_X12_net 59 1 (stH h 66 (opF f y (zI h 66))) = some (netS f 1 (dg (nG f) y)) := m_net' s' e60' i (b := 1) (by omega) op_seat
  rw [m_opens s e60 i hy, ob2_s, gd_d (k59 s), z_g, o_g]
  unfold rI
  cases vI f y with
  | false => rfl
  | true =>
    rw [b2_t, if_neg (by decide), n0, ob_s, gd_d (k59 s'), r59_1 s', ob_s, gd_d (k60 s'), l60 s', nl_131, nl_2, nmul, nadd, nI_1, ix_t (by omega) (by omega), gd_t, ncl (by omega), n1, ob_s, ob_s, gd_d (k60 s'), l60 s', ix_t (by omega) (by omega), gd_t, ncl (by omega), e60', show 131 + 2 * k + 1 = 132 + 2 * k by omega]
    by_cases c1 : netS f 0 (dg (nG f) y) = f (131 + 2 * k)
    · rw [if_pos c1, decide_eq_true c1]
      by_cases c2 : netS f 1 (dg (nG f) y) = f (132 + 2 * k)
      · rw [if_pos c2, decide_eq_true c2]
        rfl
      · rw [if_neg c2, decide_eq_false c2]
        rfl
    · rw [if_neg c1, decide_eq_false c1]
      rfl
theorem sq_st {j : Nat} : stH (stH h 66 (sqT f (zI h 66) j)) 66 (opF f j (zI (stH h 66 (sqT f (zI h 66) j)) 66)) = stH h 66 (sqT f (zI h 66) (j + 1)) := by
  rw [stH_e, stH_st]
  rfl
theorem m_fitsL (s : Sh h) (e60 : zI h 60 = f) (i : Inv f) {k : Nat} (hk : k < 8) : iter (fun z : Int32 × Int32 × Hp => F_X12_fits_l24 59 (nI k) z.1 z.2.1 z.2.2) FU (0, 0, h) = some (nI (fb_ct (rI f k) (8 ^ nG f)), stH h 66 (sqT f (zI h 66) (8 ^ nG f))) := by
  have p8 := pow8 (iG5 i)
  refine iter_at (fun j => (nI (fb_ct (rI f k) j), nI j, stH h 66 (sqT f (zI h 66) j))) (8 ^ nG f) _ ?_ (fun j hj => ?_) ?_ (FU_lt (by omega))
  · show _ = (nI 0, nI 0, stH h 66 (zI h 66))
    rw [stH_0]
    rfl
  · show F_X12_fits_l24 59 (nI k) (nI (fb_ct (rI f k) j)) (nI j) (stH h 66 (sqT f (zI h 66) j)) = _
    have s' : Sh (stH h 66 (sqT f (zI h 66) j)) := s
    have e60' : zI (stH h 66 (sqT f (zI h 66) j)) 60 = f := by rw [stH_o (by decide), e60]
    unfold F_X12_fits_l24 F_X12_fits_b47
    rw [m_many s' e60' i, ob_s, gd_d (k59 s'), if_neg (nI_ge hj (by omega)), m_isRead s' e60' i hj hk, ob2_s, sq_st, nI_1, nl_0, nl_1, nadd, nadd]
    show _ = some (Sum.inl (nI (fb_ct (rI f k) j + (if rI f k j then 1 else 0)), nI (j + 1), _))
    cases rI f k j <;> rfl
  · show F_X12_fits_l24 59 (nI k) _ (nI (8 ^ nG f)) (stH h 66 (sqT f (zI h 66) (8 ^ nG f))) = _
    have s' : Sh (stH h 66 (sqT f (zI h 66) (8 ^ nG f))) := s
    unfold F_X12_fits_l24
    rw [m_many s' (by rw [stH_o (by decide), e60]) i, ob_s, gd_d (k59 s'), if_pos (Int32.le_refl _)]
theorem stH_m66 {S : Nat → Int32} : MN (zI h) (zI (stH h 66 S)) := fun a k q => by
  rw [stH_o (by unfold mNo at q; omega)]
/-- the class reads a reading -/
theorem e_read (c : HR (zI h) 3 f) {k : Nat} (hk : k < 8) : zI h 19 k = f (131 + 2 * k) ∧ zI h 20 k = f (132 + 2 * k) := c.2.2.2.2.1 k hk
/-- nothing but the walk has changed -/
theorem wK_q {D S H : Nat → Int32} : QN h (zI (wK h D S H)) := fun a k _ h2 _ _ => by
  rw [wK_o (by unfold cNo at h2; omega)]
theorem wA_le {q P : Nat} {D S H : Nat → Int32} (w : wA f q D S H P) : P ≤ 8 ^ nG f := by
  obtain ⟨-, ⟨-, rfl, -⟩ | ⟨-, y, hy, rfl, -⟩⟩ := w
  · exact Nat.zero_le _
  · exact hy
theorem x_fitsL (s' : Sh h) (i : Inv f) (c : HR (zI h) 3 f) {k : Nat} (hk : k < 8) {D S H : Nat → Int32} (w : wA f (sR f) D S H 0) : ∃ D' S' H', iter (fun z : Int32 × Int32 × Hp => F_X11_fits_l44 0 (nI k) z.1 z.2.1 z.2.2) FU (0, 0, wK h D S H) = some (nI (fb_ct (rI f k) (8 ^ nG f)), wK h D' S' H') := by
  have p8 := pow8 (iG5 i)
  have key := walk_loop (f := f) i (body := fun z : Int32 × Int32 × Hp => F_X11_fits_l44 0 (nI k) z.1 z.2.1 z.2.2) (fun (a : Nat) j D S H => (nI a, nI j, wK h D S H)) (sR f) (fun P a => a = fb_ct (rI f k) P) (fun x => ∃ D' S' H', x = (nI (fb_ct (rI f k) (8 ^ nG f)), wK h D' S' H')) (fun a j D S H P hI hw hk2 hj => ?_) (fun a D S H hI => ?_) (a0 := 0) rfl w
  · obtain ⟨x, hx, D', S', H', hE⟩ := key
    refine ⟨D', S', H', ?_⟩
    rw [← hE]
    exact hx
  · have skip : ∀ j (a : Nat), vI f j = false → a = fb_ct (rI f k) j → a = fb_ct (rI f k) (j + 1) := fun j a hv ha => by
      have : rI f k j = false := by
        unfold rI
        rw [hv]
        rfl
      rw [fb_ct_succ, this, ha]
      rfl
    rcases x_adv s' i c hw with ⟨y, D1, S1, H1, y1, y2, y3, y4, y5, y6, y7, y8⟩ | ⟨D1, S1, H1, y1, y2⟩
    · left
      have ha : a = fb_ct (rI f k) y := skipV (I := fun P a => a = fb_ct (rI f k) P) skip hI y1 y3
      obtain ⟨n0, n1⟩ := wP_net y8
      obtain ⟨r0, r1⟩ := e_read c hk
      have le := fb_ct_le (rI f k) y
      refine ⟨y, fb_ct (rI f k) (y + 1), D1, S1, H1, y1, y2, ?_, y6, rfl⟩
      show F_X11_fits_l44 0 (nI k) (nI a) (nI j) (wK h D S H) = some (.inl (nI (fb_ct (rI f k) y + (if rI f k y then 1 else 0)), nI (j + 1), wK h D1 S1 H1))
      unfold F_X11_fits_l44 F_X11_fits_b96
      rw [nl_32768, if_neg (nI_ge hj (by omega)), wK_k, gd_d (k0 s'), wK_r, r0_5 s', ob_s, r0_1 s', ob_s, y5, ob2_s, wK_k, gd_d (k45 s'), if_neg (by decide), wK_k, gd_d (k0 s'), wK_r, r0_5 s', ob_s, r0_1 s', ob_s, wK_k, gd_d (k3 s'), r3_18 s', ob_s, wK_k, gd_d (k19 s'), wK_l, l19 s', ix_t hk (by omega), gd_t, ob_s, wK_k, gd_d (k3 s'), r3_19 s', ob_s, wK_k, gd_d (k20 s'), wK_l, l20 s', ix_t hk (by omega), gd_t, ncl (by omega), wK_o (a := 19) (by omega), wK_o (a := 20) (by omega), r0, r1, x_isAt s', ob_s, wK_k, gd_d (k45 s'), n0, n1, nI_1, nI_1, ha]
      have er : rI f k y = (decide (nq f (sR f) 0 (dg (nG f) y) = f (131 + 2 * k)) && decide (nq f (sR f) 1 (dg (nG f) y) = f (132 + 2 * k))) := by
        unfold rI
        rw [y4]
        rfl
      rw [← er]
      cases rI f k y <;> rfl
    · right
      have ha : a = fb_ct (rI f k) (8 ^ nG f) := by
        have hP : P ≤ 8 ^ nG f := wA_le hw
        exact skipV (I := fun P a => a = fb_ct (rI f k) P) skip hI hP y1
      refine ⟨(nI a, wK h D1 S1 H1), ?_, D1, S1, H1, by rw [ha]⟩
      show F_X11_fits_l44 0 (nI k) (nI a) (nI j) (wK h D S H) = _
      unfold F_X11_fits_l44
      rw [nl_32768, if_neg (nI_ge hj (by omega)), wK_k, gd_d (k0 s'), wK_r, r0_5 s', ob_s, r0_1 s', ob_s, y2, ob2_s, wK_k, gd_d (k45 s'), if_pos rfl]
  · refine ⟨(nI a, wK h D S H), ?_, D, S, H, by rw [hI]⟩
    show F_X11_fits_l44 0 (nI k) (nI a) (nI 32768) (wK h D S H) = _
    unfold F_X11_fits_l44
    rw [nl_32768, if_pos (Int32.le_refl _)]
theorem e_sR (i : Inv f) (c : HR (zI h) 3 f) : zI h 3 11 = nI (sR f) ∧ sR f < 8 := ⟨(c.1.2.2.2.2.2.2.1).trans (iS i).1, (iS i).2.1⟩
theorem j_fits (g : GS h) (v : Int32) : JB h (F_L_fits 0 v 72) (F_X12_fits 59 v) := by
  obtain ⟨s, i, c, -⟩ := id g
  have d8 := iD8 i
  cases q : isIn v (nD (zI h 60)) with
  | false =>
    have e : F_X11_fits 0 v h = some (.inr 2, h, 1, 6) := by
      unfold F_X11_fits F_X11_fits_b0
      rw [gd_d (k0 s), r0_1 s, ob_s, x_hasReading s i c, ob_s, gd_d (k3 s), q, b2_f, if_pos rfl]
    refine JB_t g (k := 1) (by decide) ?_ ⟨0, zI (tk h 1), ?_, tk_m, tk_z⟩
    · unfold F_L_fits; rw [gd_d (k0 s), e, ob4_s]; rfl
    · unfold F_X12_fits F_X12_fits_b0
      rw [gd_d (k59 s), t0_d, m_noReading (t0_s s) (t0_i i), ob_s, t0_60, q, Bool.not_false, b2_t, m_thr1 (t0_s s), ob2_s, if_neg (by decide)]
      rfl
  | true =>
    obtain ⟨k, hk, rfl⟩ := isIn_of (by omega) q
    obtain ⟨D, S, H, st, w⟩ := x_start s i c (e_sR i c).2
    obtain ⟨D1, S1, H1, lp⟩ := x_fitsL s i c (show k < 8 by omega) w
    have e : F_X11_fits 0 (nI k) h = some (.inl (nI (fb_ct (rI (zI h 60) k) (8 ^ nG (zI h 60)))), wK h D1 S1 H1, 0, 0) := by
      unfold F_X11_fits F_X11_fits_b0
      rw [gd_d (k0 s), r0_1 s, ob_s, x_hasReading s i c, ob_s, gd_d (k3 s), q, b2_t, if_neg (by decide), r0_5 s, ob_s, ob_s, ob_s, gd_d (k3 s), (e_sR i c).1, st, ob2_s, gd_d (k45 s), lp, ob_s]
      rfl
    generalize hR : nI (fb_ct (rI (zI h 60) k) (8 ^ nG (zI h 60))) = R at e
    have e60 : zI (setL (wK h D1 S1 H1) 72 0 R.toInt64) 60 = zI h 60 := wK_o (h := h) (D := D1) (S := S1) (H := H1) (a := 60) (by omega)
    have sM : Sh (setL (wK h D1 S1 H1) 72 0 R.toInt64) := s
    have iM : Inv (zI (setL (wK h D1 S1 H1) 72 0 R.toInt64) 60) := by rw [e60]; exact i
    have lm := m_fitsL (t0_s sM) (t0_60.trans e60) i (show k < 8 by omega)
    have em : F_X12_fits 59 (nI k) (setL (wK h D1 S1 H1) 72 0 R.toInt64) = some (R, stH (t0 (setL (wK h D1 S1 H1) 72 0 R.toInt64)) 66 (sqT (zI h 60) (zI (t0 (setL (wK h D1 S1 H1) 72 0 R.toInt64)) 66) (8 ^ nG (zI h 60)))) := by
      unfold F_X12_fits F_X12_fits_b0
      rw [gd_d (k59 sM), t0_d, m_noReading (t0_s sM) (t0_i iM), ob_s, t0_60, e60, q, Bool.not_true, b2_f, m_thr0 (t0_s sM), ob2_s, if_pos rfl, lm, ob_s, ← hR]
      rfl
    refine JB_w g (r := R) (J1 := zI (wK h D1 S1 H1)) (J2 := _) ?_ em ?_ (GS_w g (fun a k h1 h2 h3 h4 => (stH_m66 a k h1).trans ((t0_m a k h1).trans (wK_q a k h1 h2 h3 h4))))
    · unfold F_L_fits; rw [gd_d (k0 s), e, ob4_s]; exact put_out (Sh_w s _) _
    · rw [va_n _ _ _ _ (by decide)]
      exact t0_z
end FITS
