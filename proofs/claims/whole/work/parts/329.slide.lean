/-! SLIDING -/
section SLIDE
variable {h : Hp} {f : Nat → Int32}
def pI (f : Nat → Int32) (b r : Nat) : Int := (f (11 + 4 * r + b)).toInt
def nxU (f : Nat → Int32) (b : Nat) (d : Int) (q r : Nat) (best : Int32) : Int32 := if f (11 + 4 * r + (1 - b)) = f (11 + 4 * q + (1 - b)) ∧ 0 < d * (pI f b r - pI f b q) ∧ (best = -1 ∨ 0 < d * (pI f b best.toNatClampNeg - pI f b r)) then nI r else best
def nxS (f : Nat → Int32) (b : Nat) (d : Int) (q : Nat) : Int32 := foldN (nxU f b d q) (nR f) (-1)
/-- what has been found so far -/
def nxI (f : Nat → Int32) (b : Nat) (d : Int) (q : Nat) (v : Int32) : Prop := v = -1 ∨ ∃ r, r < nR f ∧ v = nI r ∧ 0 < d * (pI f b r - pI f b q)
theorem nx_inv (f : Nat → Int32) (b : Nat) (d : Int) (q : Nat) : ∀ j, j ≤ nR f → nxI f b d q (foldN (nxU f b d q) j (-1)) := by
  refine foldN_inv (fun _ v => nxI f b d q v) (n := nR f) (Or.inl rfl) (fun j a hj ha => ?_)
  unfold nxU
  by_cases c : f (11 + 4 * j + (1 - b)) = f (11 + 4 * q + (1 - b)) ∧ 0 < d * (pI f b j - pI f b q) ∧ (a = -1 ∨ 0 < d * (pI f b a.toNatClampNeg - pI f b j))
  · rw [if_pos c]
    exact Or.inr ⟨j, hj, rfl, c.2.1⟩
  · rw [if_neg c]
    exact ha
theorem nxS_inv (f : Nat → Int32) (b : Nat) (d : Int) (q : Nat) : nxI f b d q (nxS f b d q) := nx_inv f b d q _ (Nat.le_refl _)
def dI3 (x : Int32) (d : Int) : Prop := (x = 1 ∧ d = 1) ∨ (x = -1 ∧ d = -1) ∨ (x = 0 ∧ d = 0)
theorem d_mul {x a b : Int32} {d : Int} (hx : dI3 x d) (ha : bw a (-9) 9) (hb : bw b (-9) 9) : x * (a - b) ≤ 0 ↔ ¬ (0 < d * (a.toInt - b.toInt)) := by
  obtain ⟨a1, a2⟩ := ha
  obtain ⟨b1, b2⟩ := hb
  have e : (a - b).toInt = a.toInt - b.toInt := fb_subI (by omega) (by omega)
  have z : (0 : Int32).toInt = 0 := rfl
  rcases hx with ⟨rfl, rfl⟩ | ⟨rfl, rfl⟩ | ⟨rfl, rfl⟩
  · have o : (1 : Int32).toInt = 1 := rfl
    rw [fa_le, fb_mulI (by rw [o, e]; omega) (by rw [o, e]; omega), o, e, z]
    omega
  · have o : (-1 : Int32).toInt = -1 := rfl
    rw [fa_le, fb_mulI (by rw [o, e]; omega) (by rw [o, e]; omega), o, e, z]
    omega
  · rw [Int32.zero_mul, Int.zero_mul]
    constructor
    · intro _; omega
    · intro _; exact Int32.le_refl _
/-- the class's search -/
theorem x_next (i : Inv f) {P A b : Nat} (hb : b < 2) (p : PL h P f b) (a : PL h A f (1 - b)) {x : Int32} {d : Int} (hx : dI3 x d) {q : Nat} (hq : q < nR f) : F_X8_nextRoom (nI q) P A x (nI (nR f)) h = some (nxS f b d q) := by
  have r8 := iR8 i
  obtain ⟨p1, p2, p3⟩ := p
  obtain ⟨a1, a2, a3⟩ := a
  unfold F_X8_nextRoom F_X8_nextRoom_b0
  refine ob_p (iter_at (fun j => (foldN (nxU f b d q) j (-1), nI j)) (nR f) (nxS f b d q) rfl (fun j hj => ?_) ?_ (FU_lt (by omega))) _
  · show F_X8_nextRoom_l6 (nI q) P A x (nI (nR f)) (foldN (nxU f b d q) j (-1)) (nI j) h = some (Sum.inl (nxU f b d q j (foldN (nxU f b d q) j (-1)), nI (j + 1)))
    have inv := nx_inv f b d q j (by omega)
    generalize foldN (nxU f b d q) j (-1) = v at inv ⊢
    have dm := d_mul hx (ipl i hj hb) (ipl i hq hb)
    unfold F_X8_nextRoom_l6 F_X8_nextRoom_b40 F_X8_nextRoom_b41 F_X8_nextRoom_b68 F_X8_nextRoom_b72
    rw [if_neg (nI_ge hj (by omega)), gd_d a1, a2, ix_t (by omega) (by omega), gd_t, ix_t (by omega) (by omega), gd_t, ncl (by omega), ncl (by omega), a3 j (by omega), a3 q (by omega), gd_d p1, p2, ix_t (by omega) (by omega), gd_t, ix_t (by omega) (by omega), gd_t, p3 j (by omega), p3 q (by omega), nI_1, if_neg (show ¬ (1 : Int32) = 0 by decide), if_pos rfl, gd_d p1]
    unfold nxU
    by_cases c1 : f (11 + 4 * j + (1 - b)) = f (11 + 4 * q + (1 - b))
    · rw [if_pos c1]
      by_cases c2 : 0 < d * (pI f b j - pI f b q)
      · rw [if_neg (fun z => dm.mp z c2)]
        rcases inv with rfl | ⟨r, hr, rfl, -⟩
        · rw [if_pos rfl, if_pos ⟨c1, c2, Or.inl rfl⟩]
        · have dr := d_mul hx (ipl i hr hb) (ipl i hj hb)
          rw [if_neg (neg1_ne (by omega)), ix_t (by omega) (by omega), gd_t, gd_t, ncl (by omega), p3 r (by omega)]
          by_cases c3 : 0 < d * (pI f b r - pI f b j)
          · rw [if_neg (fun z => dr.mp z c3), if_pos ⟨c1, c2, Or.inr c3⟩]
          · rw [if_pos (dr.mpr c3), if_neg]
            rintro ⟨-, -, z | z⟩
            · exact neg1_ne (by omega) z
            · exact c3 z
      · rw [if_pos (dm.mpr c2), if_neg (fun z => c2 z.2.1)]
    · rw [if_neg c1, if_neg (fun z => c1 z.1)]
  · show F_X8_nextRoom_l6 (nI q) P A x (nI (nR f)) (nxS f b d q) (nI (nR f)) h = _
    unfold F_X8_nextRoom_l6
    rw [if_pos (Int32.le_refl _)]
theorem ab_eq {a b : Int32} (ha : bw a (-9) 9) (hb : bw b (-9) 9) : (a - b).toInt = a.toInt - b.toInt := by
  obtain ⟨a1, a2⟩ := ha
  obtain ⟨b1, b2⟩ := hb
  exact fb_subI (by omega) (by omega)
/-- the reference's -/
theorem m_beside (s : Sh h) (i : Inv (zI h 60)) {b : Nat} (hb : b < 2) (m : Bool) {q : Nat} (hq : q < nR (zI h 60)) : F_X12_besideRoom 59 (nI q) (nI b) (b2 m) h = some (nxS (zI h 60) b (if m then 1 else -1) q) := by
  have r8 := iR8 i
  have hb1 : 1 - b < 4 := by omega
  have e9 : F_X12_besideRoom 59 (nI q) (nI b) (b2 m) h = F_X12_besideRoom_b9 59 (nI q) (nI b) (b2 m) (nI (1 - b)) h := by
    have : b = 0 ∨ b = 1 := by omega
    unfold F_X12_besideRoom F_X12_besideRoom_b0
    rcases this with rfl | rfl
    · rw [if_pos (by decide)]; rfl
    · rw [if_neg (by decide)]; rfl
  rw [e9]
  unfold F_X12_besideRoom_b9
  generalize hd : (if m then (1 : Int) else -1) = d
  refine ob_p (iter_at (fun j => (foldN (nxU (zI h 60) b d q) j (-1), nI j)) (nR (zI h 60)) (nxS (zI h 60) b d q) rfl (fun j hj => ?_) ?_ (FU_lt (by omega))) _
  · show F_X12_besideRoom_l17 59 (nI q) (nI b) (b2 m) (nI (1 - b)) (foldN (nxU (zI h 60) b d q) j (-1)) (nI j) h = some (Sum.inl (nxU (zI h 60) b d q j (foldN (nxU (zI h 60) b d q) j (-1)), nI (j + 1)))
    have inv := nx_inv (zI h 60) b d q j (by omega)
    generalize foldN (nxU (zI h 60) b d q) j (-1) = v at inv ⊢
    have ij := ipl i hj hb
    have iq := ipl i hq hb
    have e61 : ∀ t : Int32, t.toInt = d * (pI (zI h 60) b j - pI (zI h 60) b q) → F_X12_besideRoom_b61 59 (nI q) (nI b) (b2 m) (nI (1 - b)) v (nI j) t h = some (Sum.inl (nxU (zI h 60) b d q j v, nI (j + 1))) := by
      intro t et
      have z : (0 : Int32).toInt = 0 := rfl
      unfold F_X12_besideRoom_b61 F_X12_besideRoom_b116 F_X12_besideRoom_b120
      rw [m_ofRoom s (by omega) hb1, ob_s, gd_d (k59 s), m_ofRoom s (by omega) hb1, ob_s, nI_1]
      unfold nxU
      by_cases c2 : 0 < d * (pI (zI h 60) b j - pI (zI h 60) b q)
      · rw [if_neg (by rw [fa_le, et, z]; omega)]
        by_cases c1 : zI h 60 (11 + 4 * j + (1 - b)) = zI h 60 (11 + 4 * q + (1 - b))
        · rw [if_pos c1]
          rcases inv with rfl | ⟨r, hr, rfl, c4⟩
          · rw [if_pos (by decide), if_pos ⟨c1, c2, Or.inl rfl⟩]
          · have ir := ipl i hr hb
            have er := ab_eq ir iq
            have ea : (jabs (zI h 60 (11 + 4 * r + b) - zI h 60 (11 + 4 * q + b))).toInt = d * (pI (zI h 60) b r - pI (zI h 60) b q) := by
              rw [jabs_i (by rw [er]; unfold bw at ir iq; omega), er]
              unfold pI at c4 ⊢
              cases m with
              | true => rw [if_pos rfl] at hd; subst hd; omega
              | false => rw [if_neg (by decide)] at hd; subst hd; omega
            rw [if_neg (nI_pos (by omega)), m_ofRoom s (by omega) (by omega), ob_s, m_ofRoom s (by omega) (by omega), ob_s, ncl (by omega)]
            by_cases c3 : 0 < d * (pI (zI h 60) b r - pI (zI h 60) b j)
            · rw [if_neg, if_pos ⟨c1, c2, Or.inr c3⟩]
              rw [fa_le, ea, et]
              cases m with
              | true => rw [if_pos rfl] at hd; subst hd; omega
              | false => rw [if_neg (by decide)] at hd; subst hd; omega
            · rw [if_pos, if_neg]
              · rintro ⟨-, -, w | w⟩
                · exact neg1_ne (by omega) w
                · exact c3 w
              · rw [fa_le, ea, et]
                cases m with
                | true => rw [if_pos rfl] at hd; subst hd; omega
                | false => rw [if_neg (by decide)] at hd; subst hd; omega
        · rw [if_neg c1, if_neg (fun w => c1 w.1)]
      · rw [if_pos (by rw [fa_le, et, z]; omega), if_neg (fun w => c2 w.2.1)]
    unfold F_X12_besideRoom_l17
    rw [m_rooms s, ob_s, gd_d (k59 s), iR i, if_neg (nI_ge hj (by omega)), m_ofRoom s (by omega) (by omega), ob_s, m_ofRoom s (by omega) (by omega), ob_s, ob_s, ob_s]
    cases m with
    | true =>
      rw [if_pos rfl] at hd
      rw [b2_t, if_neg (by decide)]
      exact e61 _ (by rw [ab_eq ij iq, ← hd]; unfold pI; omega)
    | false =>
      rw [if_neg (by decide)] at hd
      rw [b2_f, if_pos rfl]
      exact e61 _ (by rw [ab_eq iq ij, ← hd]; unfold pI; omega)
  · show F_X12_besideRoom_l17 59 (nI q) (nI b) (b2 m) (nI (1 - b)) (nxS (zI h 60) b d q) (nI (nR (zI h 60))) h = _
    unfold F_X12_besideRoom_l17
    rw [m_rooms s, ob_s, gd_d (k59 s), iR i, if_pos (Int32.le_refl _)]
end SLIDE
