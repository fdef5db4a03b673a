/-! CALL: feed -/
section FEED
variable {h : Hp}
def fvS (a b c d e : Int32) (k : Nat) : Int32 := if k = 0 then a else if k = 1 then b else if k = 2 then c else if k = 3 then d else e
def byS (v : Int32) (m : Nat) : Int32 := vp_nar .byte ((v >>> (nI (24 - 8 * m) &&& 31)).toInt8.toInt32)
def bkS (a b c d e : Int32) (k : Nat) : Int32 := byS (fvS a b c d e (k / 4)) (k % 4)
def tpF (b old : Nat → Int32) (n j : Nat) : Nat → Int32 := fun p => if n ≤ p ∧ p < n + j then b (p - n) else old p
theorem tpF_0 (b old : Nat → Int32) (n : Nat) : tpF b old n 0 = old := by
  funext p
  unfold tpF
  rw [if_neg (by omega)]
theorem tpF_s (b old : Nat → Int32) (n j : Nat) : va_up (tpF b old n j) (n + j) (b j) = tpF b old n (j + 1) := by
  funext p
  by_cases e : p = n + j
  · subst e
    rw [va_e]
    unfold tpF
    rw [if_pos (by omega), show n + j - n = j by omega]
  · rw [va_n _ _ _ _ e]
    unfold tpF
    by_cases q : n ≤ p ∧ p < n + j
    · rw [if_pos q, if_pos (by omega)]
    · rw [if_neg q, if_neg (by omega)]
/-- the class's tape after j bytes -/
def tpC (h : Hp) (b : Nat → Int32) (n j : Nat) : Hp := wI h (up2 (va_up (zI h) 2 (tpF b (zI h 2) n j)) 1 1 (nI (n + j)))
theorem tpC_0 {b : Nat → Int32} {n : Nat} (e : zI h 1 1 = nI n) : tpC h b n 0 = h := by
  unfold tpC
  rw [tpF_0, va_same, Nat.add_zero, ← e]
  show wI h (va_up (zI h) 1 (va_up (zI h 1) 1 (zI h 1 1))) = h
  rw [va_same, va_same]
  rfl
theorem tpC_1 {b : Nat → Int32} {n j : Nat} : zI (tpC h b n j) 1 1 = nI (n + j) := by
  unfold tpC
  rw [wI_I, up2_e]
theorem tpC_s {b : Nat → Int32} {n j : Nat} : setI (setI (tpC h b n j) 2 (n + j) (b j)) 1 1 (nI (n + j + 1)) = tpC h b n (j + 1) := by
  rw [setI_w, setI_w, wI_I, wI_w]
  show wI h (up2 (up2 (up2 (va_up (zI h) 2 (tpF b (zI h 2) n j)) 1 1 (nI (n + j))) 2 (n + j) (b j)) 1 1 (nI (n + j + 1))) = wI h (up2 (va_up (zI h) 2 (tpF b (zI h 2) n (j + 1))) 1 1 (nI (n + j + 1)))
  congr 1
  funext p k
  by_cases h1 : p = 1
  · subst h1
    by_cases hk : k = 1
    · subst hk
      rw [up2_e, up2_e]
    · rw [up2_k _ _ _ _ _ hk, up2_k _ _ _ _ _ hk, up2_a _ _ _ _ _ (by decide), up2_k _ _ _ _ _ hk, va_n _ _ _ _ (by decide), va_n _ _ _ _ (by decide)]
  · rw [up2_a _ _ _ _ _ h1, up2_a _ _ _ _ _ h1]
    by_cases h2 : p = 2
    · subst h2
      rw [up2_v1, up2_a _ _ _ _ _ (by decide), va_e, va_e, tpF_s]
    · rw [up2_a _ _ _ _ _ h2, up2_a _ _ _ _ _ h1, va_n _ _ _ _ h2, va_n _ _ _ _ h2]
theorem x_append (s : Sh h) {b : Nat → Int32} {n q : Nat} {v : Int32} (hq : n + q + 4 ≤ 400) (hb : ∀ m, m < 4 → b (q + m) = byS v m) : F_X6_append 1 v (tpC h b n q) = some ((), tpC h b n (q + 4)) := by
  unfold F_X6_append F_X6_append_b0 F_X6_append_b48
  have st : ∀ m, m < 4 → ∀ v2 : Int32, v2 = nI (24 - 8 * m) → F_X6_append_l3 1 v v2 (tpC h b n (q + m)) = some (.inl (v2 + (-8 : Int32), tpC h b n (q + (m + 1)))) := by
    intro m hm v2 e2
    have s' : Sh (tpC h b n (q + m)) := s
    have s2 : zI (setI (tpC h b n (q + m)) 2 (n + (q + m)) (b (q + m))) 1 1 = nI (n + (q + m)) := (congrFun (su_n (by decide)) 1).trans tpC_1
    have e3 : vp_nar .byte ((v >>> (nI (24 - 8 * m) &&& 31)).toInt8.toInt32) = b (q + m) := (hb m hm).symm
    unfold F_X6_append_l3
    rw [e2, if_neg (nI_pos (by omega)), gd_d (k1 s'), r1_0 s', ob_s, gd_d (k2 s'), l2 s', tpC_1, if_neg (show ¬ (Int32.ofNat 400 ≤ nI (n + (q + m))) from nI_ge (by omega) (by omega)), ob_s, gd_d (k2 s'), l2 s', ix_t (by omega) (by omega), gd_t, ob_s, ncl (by omega), e3, s2, nI_1, tpC_s]
    rfl
  refine ob_p (iter_at (fun m => (if m < 4 then nI (24 - 8 * m) else -8, tpC h b n (q + m))) 4 (tpC h b n (q + 4)) rfl (fun m hm => ?_) ?_ (FU_lt (by omega))) _
  · show F_X6_append_l3 1 v (if m < 4 then nI (24 - 8 * m) else -8) (tpC h b n (q + m)) = _
    rw [if_pos hm, st m hm _ rfl]
    have : m = 0 ∨ m = 1 ∨ m = 2 ∨ m = 3 := by omega
    rcases this with rfl | rfl | rfl | rfl <;> rfl
  · show F_X6_append_l3 1 v (-8) (tpC h b n (q + 4)) = _
    unfold F_X6_append_l3
    rw [if_pos (by decide)]
theorem x_feed (s : Sh h) {n : Nat} (e1 : zI h 1 1 = nI n) (hn : n ≤ 400) (a b c d e : Int32) : F_X11_feed 0 a b c d e h = if n + 20 ≤ 400 then some (nI (n + 20), tpC h (bkS a b c d e) n 20) else some (-1, h) := by
  by_cases q : n + 20 ≤ 400
  · have b0 := x_append s (b := bkS a b c d e) (n := n) (q := 0) (v := a) (by omega) (fun m hm => by
      unfold bkS
      rw [show (0 + m) / 4 = 0 by omega, show (0 + m) % 4 = m by omega]
      rfl)
    have b1 := x_append s (b := bkS a b c d e) (n := n) (q := 4) (v := b) (by omega) (fun m hm => by
      unfold bkS
      rw [show (4 + m) / 4 = 1 by omega, show (4 + m) % 4 = m by omega]
      rfl)
    have b2 := x_append s (b := bkS a b c d e) (n := n) (q := 8) (v := c) (by omega) (fun m hm => by
      unfold bkS
      rw [show (8 + m) / 4 = 2 by omega, show (8 + m) % 4 = m by omega]
      rfl)
    have b3 := x_append s (b := bkS a b c d e) (n := n) (q := 12) (v := d) (by omega) (fun m hm => by
      unfold bkS
      rw [show (12 + m) / 4 = 3 by omega, show (12 + m) % 4 = m by omega]
      rfl)
    have b4 := x_append s (b := bkS a b c d e) (n := n) (q := 16) (v := e) (by omega) (fun m hm => by
      unfold bkS
      rw [show (16 + m) / 4 = 4 by omega, show (16 + m) % 4 = m by omega]
      rfl)
    rw [tpC_0 e1] at b0
    have sh : ∀ j, Sh (tpC h (bkS a b c d e) n j) := fun j => s
    unfold F_X11_feed F_X11_feed_b0
    rw [gd_d (k0 s), r0_0 s, ob_s, gd_d (k1 s), e1, nl_20, nadd, nl_400, if_pos (nI_le q (by omega)), if_pos q, ob_s, b0, ob2_s, gd_d (k1 s), gd_d (k0 (sh 4)), r0_0 (sh 4), ob_s, b1, ob2_s, gd_d (k1 (sh 4)), gd_d (k0 (sh 8)), r0_0 (sh 8), ob_s, b2, ob2_s, gd_d (k1 (sh 8)), gd_d (k0 (sh 12)), r0_0 (sh 12), ob_s, b3, ob2_s, gd_d (k1 (sh 12)), gd_d (k0 (sh 16)), r0_0 (sh 16), ob_s, b4, ob2_s, gd_d (k1 (sh 16)), gd_d (k0 (sh 20)), r0_0 (sh 20), ob_s, gd_d (k1 (sh 20)), tpC_1]
  · unfold F_X11_feed F_X11_feed_b0
    rw [gd_d (k0 s), r0_0 s, ob_s, gd_d (k1 s), e1, nl_20, nadd, nl_400, if_neg (nI_ge (by omega) (by omega)), if_neg q]
theorem r59_5 (s : Sh h) : zR h 59 5 = some 63 := by unfold Sh at s; simp only [s]
theorem r59_12 (s : Sh h) : zR h 59 12 = some 64 := by unfold Sh at s; simp only [s]
theorem k64 (s : Sh h) : kd h 64 = 13 := by unfold Sh at s; simp only [s]
theorem l64 (s : Sh h) : zl h 64 = 5 := by unfold Sh at s; simp only [s]
theorem k63 (s : Sh h) : kd h 63 = 12 := by unfold Sh at s; simp only [s]
theorem l63 (s : Sh h) : zl h 63 = 400 := by unfold Sh at s; simp only [s]
def tpM (h : Hp) (b : Nat → Int32) (n j : Nat) : Hp := wI h (va_up (zI h) 63 (tpF b (zI h 63) n j))
theorem m_feedL (s : Sh h) {n : Nat} (e6 : zI h 59 6 = nI n) (hn : n + 20 ≤ 400) {a b c d e : Int32} (e64 : ∀ k, k < 5 → zI h 64 k = fvS a b c d e k) : iter (fun z : Int32 × Hp => F_X12_feed_l60 59 z.1 z.2) FU (0, h) = some (tpM h (bkS a b c d e) n 20) := by
  refine iter_at (fun j => (nI j, tpM h (bkS a b c d e) n j)) 20 _ ?_ (fun j hj => ?_) ?_ (FU_lt (by omega))
  · unfold tpM
    rw [tpF_0, va_same]
    rfl
  · show F_X12_feed_l60 59 (nI j) (tpM h (bkS a b c d e) n j) = _
    have s' : Sh (tpM h (bkS a b c d e) n j) := s
    have z6 : zI (tpM h (bkS a b c d e) n j) 59 6 = nI n := by
      unfold tpM
      rw [wv_n (by decide), e6]
    have z4 : zI (tpM h (bkS a b c d e) n j) 64 (j / 4) = fvS a b c d e (j / 4) := by
      unfold tpM
      rw [wv_n (by decide), e64 _ (by omega)]
    have eb : vp_nar .byte ((fvS a b c d e (j / 4) >>> (nI (24 - 8 * (j % 4)) &&& 31)).toInt8.toInt32) = bkS a b c d e j := rfl
    unfold F_X12_feed_l60
    rw [nl_20, if_neg (nI_ge hj (by omega)), gd_d (k59 s'), r59_5 s', ob_s, r59_12 s', ob_s, gd_d (k64 s'), nl_4, pk_div (by omega) (by omega) (by omega), l64 s', ix_t (by omega) (by omega), gd_t, gd_d (k63 s'), z6, nadd, l63 s', ix_t (by omega) (by omega), gd_t, ncl (show n + j < _ by omega), ncl (show j / 4 < _ by omega), z4, ← pk_div (a := j) (d := 4) (by omega) (by omega) (by omega), pk_rem (by omega) (by omega) (by omega), nl_24, nl_8, nmul, nsub (by omega), eb, ob_s, nI_1]
    have : setI (tpM h (bkS a b c d e) n j) 63 (n + j) (bkS a b c d e j) = tpM h (bkS a b c d e) n (j + 1) := by
      unfold tpM
      rw [setI_w, wI_I, wI_w, up2_va, tpF_s]
    rw [this]
  · show F_X12_feed_l60 59 (nI 20) (tpM h (bkS a b c d e) n 20) = _
    unfold F_X12_feed_l60
    rw [nl_20, if_pos (Int32.le_refl _)]
def fvH (h : Hp) (a b c d e : Int32) : Hp := setI (setI (setI (setI (setI (t0 h) 64 0 a) 64 1 b) 64 2 c) 64 3 d) 64 4 e
theorem m_feed (s : Sh h) {n : Nat} (e6 : zI h 59 6 = nI n) (hn : n ≤ 400) (a b c d e : Int32) : F_X12_feed 59 a b c d e h = if n + 20 ≤ 400 then some (nI (n + 20), setI (tpM (fvH h a b c d e) (bkS a b c d e) n 20) 59 6 (nI (n + 20))) else some (-1, t0 h) := by
  have z6 : zI (t0 h) 59 6 = nI n := (su_k (by decide)).trans e6
  by_cases q : n + 20 ≤ 400
  · have sv : Sh (fvH h a b c d e) := s
    have y6 : zI (fvH h a b c d e) 59 6 = nI n := by
      unfold fvH
      rw [su_n (by decide), su_n (by decide), su_n (by decide), su_n (by decide), su_n (by decide), z6]
    have y64 : ∀ k, k < 5 → zI (fvH h a b c d e) 64 k = fvS a b c d e k := by
      intro k hk
      unfold fvH
      have : k = 0 ∨ k = 1 ∨ k = 2 ∨ k = 3 ∨ k = 4 := by omega
      rcases this with rfl | rfl | rfl | rfl | rfl
      · rw [su_k (by decide), su_k (by decide), su_k (by decide), su_k (by decide), su_e]; rfl
      · rw [su_k (by decide), su_k (by decide), su_k (by decide), su_e]; rfl
      · rw [su_k (by decide), su_k (by decide), su_e]; rfl
      · rw [su_k (by decide), su_e]; rfl
      · rw [su_e]; rfl
    have ml := m_feedL sv y6 q y64
    have s2 : Sh (tpM (fvH h a b c d e) (bkS a b c d e) n 20) := s
    have x6 : zI (tpM (fvH h a b c d e) (bkS a b c d e) n 20) 59 6 = nI n := by
      unfold tpM
      rw [wv_n (by decide), y6]
    have t1 : Sh (t0 h) := t0_s s
    have t2 : Sh (setI (t0 h) 64 0 a) := t0_s s
    have t3 : Sh (setI (setI (t0 h) 64 0 a) 64 1 b) := t0_s s
    have t4 : Sh (setI (setI (setI (t0 h) 64 0 a) 64 1 b) 64 2 c) := t0_s s
    have t5 : Sh (setI (setI (setI (setI (t0 h) 64 0 a) 64 1 b) 64 2 c) 64 3 d) := t0_s s
    have c0 : (0 : Int32).toNatClampNeg = 0 := by decide
    have c1 : (1 : Int32).toNatClampNeg = 1 := by decide
    have c2 : (2 : Int32).toNatClampNeg = 2 := by decide
    have c3 : (3 : Int32).toNatClampNeg = 3 := by decide
    have c4 : (4 : Int32).toNatClampNeg = 4 := by decide
    have i0 : ix (0 : Int32) 5 = true := by decide
    have i1 : ix (1 : Int32) 5 = true := by decide
    have i2 : ix (2 : Int32) 5 = true := by decide
    have i3 : ix (3 : Int32) 5 = true := by decide
    have i4 : ix (4 : Int32) 5 = true := by decide
    unfold F_X12_feed F_X12_feed_b0
    rw [gd_d (k59 s), t0_d, z6, nl_20, nadd, nl_400, if_pos (nI_le q (by omega)), if_pos q, c0, c1, c2, c3, c4]
    rw [r59_12 t1, ob_s, gd_d (k64 t1), l64 t1, i0, gd_t, r59_12 t2, ob_s, gd_d (k64 t2), l64 t2, i1, gd_t, r59_12 t3, ob_s, gd_d (k64 t3), l64 t3, i2, gd_t, ob_s, r59_12 t4, ob_s, gd_d (k64 t4), l64 t4, i3, gd_t, r59_12 t5, ob_s, gd_d (k64 t5), l64 t5, i4, gd_t]
    refine (ob_p ml _).trans ?_
    rw [gd_d (k59 s2), x6, nadd, su_e]
  · unfold F_X12_feed F_X12_feed_b0
    rw [gd_d (k59 s), t0_d, z6, nl_20, nadd, nl_400, if_neg (nI_ge (by omega) (by omega)), if_neg q]
theorem j_feed (g : GS h) (a b c d e : Int32) : JA h (F_X11_feed 0 a b c d e) (F_X12_feed 59 a b c d e) := by
  obtain ⟨s, i, c', t, -⟩ := id g
  obtain ⟨t1, t2, t3, n, hn, tn⟩ := t
  by_cases q : n + 20 ≤ 400
  · have e6 : zI (tpC h (bkS a b c d e) n 20) 59 6 = nI n := by
      unfold tpC
      rw [wI_I, up2_a _ _ _ _ _ (by decide), va_n _ _ _ _ (by decide), ← t2, tn]
    have s' : Sh (tpC h (bkS a b c d e) n 20) := s
    refine ⟨nI (n + 20), tpC h (bkS a b c d e) n 20, setI (tpM (fvH (tpC h (bkS a b c d e) n 20) a b c d e) (bkS a b c d e) n 20) 59 6 (nI (n + 20)), by rw [x_feed s tn hn, if_pos q], by rw [m_feed s' e6 hn, if_pos q], k59 s, ?_, Nat.le_refl _, Nat.le_refl _⟩
    have lo : ∀ p, p ≠ 1 → p ≠ 2 → p ≠ 59 → p ≠ 63 → p ≠ 64 → zI (setI (tpM (fvH (tpC h (bkS a b c d e) n 20) a b c d e) (bkS a b c d e) n 20) 59 6 (nI (n + 20))) p = zI h p := fun p h1 h2 h3 h4 h5 => by
      unfold tpM fvH tpC
      rw [su_n h3, wv_n h4, su_n h5, su_n h5, su_n h5, su_n h5, su_n h5, t0_o h3, wI_I, up2_a _ _ _ _ _ h1, va_n _ _ _ _ h2]
    have a1 : zI (setI (tpM (fvH (tpC h (bkS a b c d e) n 20) a b c d e) (bkS a b c d e) n 20) 59 6 (nI (n + 20))) 1 = va_up (zI h 1) 1 (nI (n + 20)) := by
      unfold tpM fvH tpC
      rw [su_n (by decide), wv_n (by decide), su_n (by decide), su_n (by decide), su_n (by decide), su_n (by decide), su_n (by decide), t0_o (by decide), wI_I, up2_v1, va_n _ _ _ _ (by decide)]
    have a2 : zI (setI (tpM (fvH (tpC h (bkS a b c d e) n 20) a b c d e) (bkS a b c d e) n 20) 59 6 (nI (n + 20))) 2 = tpF (bkS a b c d e) (zI h 2) n 20 := by
      unfold tpM fvH tpC
      rw [su_n (by decide), wv_n (by decide), su_n (by decide), su_n (by decide), su_n (by decide), su_n (by decide), su_n (by decide), t0_o (by decide), wI_I, up2_a _ _ _ _ _ (by decide), va_e]
    have a63 : zI (setI (tpM (fvH (tpC h (bkS a b c d e) n 20) a b c d e) (bkS a b c d e) n 20) 59 6 (nI (n + 20))) 63 = tpF (bkS a b c d e) (zI h 63) n 20 := by
      have : zI (fvH (tpC h (bkS a b c d e) n 20) a b c d e) 63 = zI h 63 := by
        unfold fvH tpC
        rw [su_n (by decide), su_n (by decide), su_n (by decide), su_n (by decide), su_n (by decide), t0_o (by decide), wI_I, up2_a _ _ _ _ _ (by decide), va_n _ _ _ _ (by decide)]
      unfold tpM
      rw [su_n (by decide), wv_e, this]
    have a59 : ∀ k, k ≠ 0 → k ≠ 6 → zI (setI (tpM (fvH (tpC h (bkS a b c d e) n 20) a b c d e) (bkS a b c d e) n 20) 59 6 (nI (n + 20))) 59 k = zI h 59 k := fun k h1 h2 => by
      unfold tpM fvH tpC
      rw [su_k h2, wv_n (by decide), su_n (by decide), su_n (by decide), su_n (by decide), su_n (by decide), su_n (by decide)]
      refine (su_k h1).trans ?_
      rw [wI_I, up2_a _ _ _ _ _ (by decide), va_n _ _ _ _ (by decide)]
    have gs := GS_tp (J := zI (setI (tpM (fvH (tpC h (bkS a b c d e) n 20) a b c d e) (bkS a b c d e) n 20) 59 6 (nI (n + 20)))) g ?_ ?_
    · exact gs
    · refine ⟨fun k hk => ?_, ?_, ?_, n + 20, by omega, ?_⟩
      · rw [a2, a63]
        unfold tpF
        rw [t1 k hk]
      · rw [a1, va_e, su_e]
      · rw [a1, va_n _ _ _ _ (by decide), a59 _ (by decide) (by decide), t3]
      · rw [a1, va_e]
    · intro p k h1 h2 h3 h4 h5 h6
      by_cases hp : p = 59
      · subst hp
        rw [a59 k (by unfold mNo at h5; omega) (by omega)]
      · rw [lo p h1 h2 hp h3 (by unfold mNo at h5; omega)]
  · refine ⟨-1, h, t0 h, by rw [x_feed s tn hn, if_neg q], by rw [m_feed s (t2.symm.trans tn) hn, if_neg q], k59 s, GS_t0 g, Nat.le_refl _, Nat.le_refl _⟩
end FEED
