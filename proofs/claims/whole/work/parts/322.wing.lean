/-! CALL: wing -/
theorem acc_bd {a : Int32} {f : Nat → Int32} {A M : Int} (ha : -A ≤ a.toInt ∧ a.toInt ≤ A) : ∀ n : Nat, (∀ j, j < n → -M ≤ (f j).toInt ∧ (f j).toInt ≤ M) → A + n * M < 2147483648 → 0 ≤ M → -(A + n * M) ≤ (accN a f n).toInt ∧ (accN a f n).toInt ≤ A + n * M
  | 0, _, _, _ => by
    show -(A + ((0 : Nat) : Int) * M) ≤ a.toInt ∧ a.toInt ≤ A + ((0 : Nat) : Int) * M
    have : ((0 : Nat) : Int) * M = 0 := by simp
    omega
  | n + 1, h, hb, hM => by
    have e : ((n + 1 : Nat) : Int) * M = n * M + M := by
      rw [Int.natCast_add, Int.add_mul]
      simp
    rw [e] at hb ⊢
    obtain ⟨i1, i2⟩ := acc_bd ha n (fun j hj => h j (by omega)) (by omega) hM
    obtain ⟨h1, h2⟩ := h n (by omega)
    have e2 : (accN a f (n + 1)).toInt = (accN a f n).toInt + (f n).toInt := fb_addI (x := accN a f n) (by omega) (by omega)
    rw [e2]
    omega
theorem mul_bd2 {a x : Int32} {K : Int} (ha : 0 ≤ a.toInt ∧ a.toInt ≤ K) (hK : K ≤ 1000) (hx : bw x (-9) 9) : -(9 * K) ≤ (a * x).toInt ∧ (a * x).toInt ≤ 9 * K ∧ (a * x).toInt = a.toInt * x.toInt := by
  obtain ⟨a1, a2⟩ := ha
  obtain ⟨x1, x2⟩ := hx
  have h1 : a.toInt * x.toInt ≤ a.toInt * 9 := Int.mul_le_mul_of_nonneg_left x2 a1
  have h2 : a.toInt * -9 ≤ a.toInt * x.toInt := Int.mul_le_mul_of_nonneg_left x1 a1
  have e : (a * x).toInt = a.toInt * x.toInt := fb_mulI (by omega) (by omega)
  rw [e]
  omega
theorem thg_bd {f : Nat → Int32} (i : Inv f) {b q : Nat} (hb : b < 2) (hq : q < nR f ∨ f 7 = 0) : -80919 ≤ (thg f b q).toInt ∧ (thg f b q).toInt ≤ 80919 := by
  have r8 := iR8 i
  have h0 : -8991 ≤ (f 7 * f (11 + 4 * q + b)).toInt ∧ (f 7 * f (11 + 4 * q + b)).toInt ≤ 8991 := by
    rcases hq with hq | hq
    · have := mul_bd2 (i7 i) (by omega) (ipl i hq hb)
      omega
    · rw [hq, Int32.zero_mul]
      decide
  have := acc_bd (f := fun r => f (14 + 4 * r) * f (11 + 4 * r + b)) (A := 8991) (M := 8991) h0 (nR f) (fun j hj => by
    have := mul_bd2 ((irm i j hj).2.2.2) (by omega) (ipl i hj hb)
    omega) (by omega) (by omega)
  show -80919 ≤ (accN _ _ _).toInt ∧ (accN _ _ _).toInt ≤ 80919
  have h8 : ((nR f : Nat) : Int) * 8991 ≤ 71928 := by omega
  omega
theorem gst_bd {f : Nat → Int32} (i : Inv f) {b : Nat} (hb : b < 2) {s : Nat → Nat} (hs : ∀ g, g < nG f → s g < nR f) : -9000 ≤ (gst f b s).toInt ∧ (gst f b s).toInt ≤ 9000 := by
  have g5 := iG5 i
  have := acc_bd (a := 0) (f := fun g => f (43 + 2 * g) * f (11 + 4 * s g + b)) (A := 0) (M := 1800) (by decide) (nG f) (fun j hj => by
    obtain ⟨⟨w1, w2⟩, -⟩ := igs i j hj
    have := mul_bd2 (a := f (43 + 2 * j)) (K := 200) ⟨by omega, w2⟩ (by omega) (ipl i (hs j hj) hb)
    omega) (by omega) (by omega)
  show -9000 ≤ (accN _ _ _).toInt ∧ (accN _ _ _).toInt ≤ 9000
  omega
theorem net_bd {f : Nat → Int32} (i : Inv f) {b : Nat} (hb : b < 2) {s : Nat → Nat} (hs : ∀ g, g < nG f → s g < nR f) : -89919 ≤ (netS f b s).toInt ∧ (netS f b s).toInt ≤ 89919 := by
  have h1 := thg_bd i hb (iS i).2.2
  have h2 := gst_bd i hb hs
  have e : (netS f b s).toInt = (thg f b (sR f)).toInt + (gst f b s).toInt := fb_addI (by omega) (by omega)
  omega
/-- first of the least -/
def amS (p : Nat → Int) : Nat → Nat
  | 0 => 0
  | n + 1 => if p (amS p n) ≤ p n then amS p n else n
theorem amS_ok (p : Nat → Int) : ∀ n, amS p (n + 1) < n + 1 ∧ (∀ k, k < n + 1 → p (amS p (n + 1)) ≤ p k) ∧ ∀ k, k < amS p (n + 1) → p (amS p (n + 1)) < p k
  | 0 => by
    have e : amS p 1 = 0 := by
      unfold amS
      by_cases q : p (amS p 0) ≤ p 0
      · rw [if_pos q]; rfl
      · rw [if_neg q]
    rw [e]
    refine ⟨by omega, fun k hk => ?_, fun k hk => by omega⟩
    rw [show k = 0 by omega]
    omega
  | n + 1 => by
    obtain ⟨i1, i2, i3⟩ := amS_ok p n
    have e : amS p (n + 1 + 1) = if p (amS p (n + 1)) ≤ p (n + 1) then amS p (n + 1) else n + 1 := rfl
    rw [e]
    by_cases q : p (amS p (n + 1)) ≤ p (n + 1)
    · rw [if_pos q]
      refine ⟨by omega, fun k hk => ?_, i3⟩
      by_cases hk2 : k = n + 1
      · rw [hk2]; exact q
      · exact i2 k (by omega)
    · rw [if_neg q]
      refine ⟨by omega, fun k hk => ?_, fun k hk => ?_⟩
      · by_cases hk2 : k = n + 1
        · rw [hk2]; omega
        · have := i2 k (by omega)
          omega
      · have := i2 k (by omega)
        omega
theorem amS_sum (p q : Nat → Int) : amS (fun k => p (k % 19) + q (k / 19)) 361 = 19 * amS q 19 + amS p 19 := by
  have A : amS p 19 < 19 ∧ (∀ k, k < 19 → p (amS p 19) ≤ p k) ∧ ∀ k, k < amS p 19 → p (amS p 19) < p k := amS_ok p 18
  have B : amS q 19 < 19 ∧ (∀ k, k < 19 → q (amS q 19) ≤ q k) ∧ ∀ k, k < amS q 19 → q (amS q 19) < q k := amS_ok q 18
  obtain ⟨a1, a2, a3⟩ := A
  obtain ⟨b1, b2, b3⟩ := B
  have C : ∀ N, N = 360 + 1 → amS (fun k => p (k % 19) + q (k / 19)) N < N ∧ (∀ k, k < N → p (amS (fun k => p (k % 19) + q (k / 19)) N % 19) + q (amS (fun k => p (k % 19) + q (k / 19)) N / 19) ≤ p (k % 19) + q (k / 19)) ∧ ∀ k, k < amS (fun k => p (k % 19) + q (k / 19)) N → p (amS (fun k => p (k % 19) + q (k / 19)) N % 19) + q (amS (fun k => p (k % 19) + q (k / 19)) N / 19) < p (k % 19) + q (k / 19) := by
    intro N e
    subst e
    exact amS_ok (fun k => p (k % 19) + q (k / 19)) 360
  obtain ⟨c1, c2, c3⟩ := C 361 rfl
  refine fb_best_one (f := fun k => -(p (k % 19) + q (k / 19))) (n := 361) c1 (fun k hk => ?_) (fun k hk => ?_) (by omega) (fun k hk => ?_) (fun k hk => ?_)
  · exact Int.neg_le_neg (c2 k hk)
  · exact Int.neg_lt_neg (c3 k hk)
  · have h1 := a2 (k % 19) (by omega)
    have h2 := b2 (k / 19) (by omega)
    show -(p (k % 19) + q (k / 19)) ≤ -(p ((19 * amS q 19 + amS p 19) % 19) + q ((19 * amS q 19 + amS p 19) / 19))
    rw [show (19 * amS q 19 + amS p 19) % 19 = amS p 19 by omega, show (19 * amS q 19 + amS p 19) / 19 = amS q 19 by omega]
    omega
  · show -(p (k % 19) + q (k / 19)) < -(p ((19 * amS q 19 + amS p 19) % 19) + q ((19 * amS q 19 + amS p 19) / 19))
    rw [show (19 * amS q 19 + amS p 19) % 19 = amS p 19 by omega, show (19 * amS q 19 + amS p 19) / 19 = amS q 19 by omega]
    have h1 := a2 (k % 19) (by omega)
    by_cases e : k / 19 = amS q 19
    · have := a3 (k % 19) (by omega)
      rw [e]
      omega
    · have := b3 (k / 19) (by omega)
      omega
def plS (j : Nat) : Int32 := nI j - 9
theorem plS_s (j : Nat) : plS j + 1 = plS (j + 1) := by
  unfold plS
  rw [← nI_1, Int32.sub_eq_add_neg, Int32.sub_eq_add_neg, Int32.add_assoc, Int32.add_assoc, Int32.add_comm 1]
theorem plS_i {j : Nat} (h : j < 100) : (plS j).toInt = j - 9 := by
  unfold plS
  have e := nI_toInt (n := j) (by omega)
  have z : (9 : Int32).toInt = 9 := rfl
  rw [fb_subI (by omega) (by omega), e, z]
theorem plS_9 {j : Nat} (h : j < 100) : ((9 : Int32) < plS j) = (18 < j) := by
  have z : (9 : Int32).toInt = 9 := rfl
  have := plS_i h
  refine propext ?_
  rw [fa_lt, this, z]
  omega
theorem plS_b {j : Nat} : plS j + 9 = nI j := by
  unfold plS
  rw [Int32.sub_add_cancel]
def phS (x : Int32) (m : Nat) (j : Nat) : Int := Int.ofNat (x.toInt + m * ((j : Int) - 9)).natAbs
theorem jabs_i {v : Int32} (h : -2147483648 < v.toInt) : (jabs v).toInt = (v.toInt.natAbs : Int) := by
  unfold jabs
  have z : (0 : Int32).toInt = 0 := rfl
  by_cases q : 0 ≤ v
  · rw [if_pos q]
    rw [fa_le] at q
    omega
  · rw [if_neg q]
    rw [fa_le] at q
    rw [fb_subI (by omega) (by have := fb_rng v; omega)]
    omega
theorem ph_eq {x : Int32} (hx : -89919 ≤ x.toInt ∧ x.toInt ≤ 89919) {m j : Nat} (hm : m ≤ 999) (hj : j < 19) : (jabs (x + nI m * plS j)).toInt = phS x m j ∧ 0 ≤ phS x m j ∧ phS x m j ≤ 99999 := by
  have ep := plS_i (j := j) (by omega)
  have em := nI_toInt (n := m) (by omega)
  have b := mul_bd2 (a := nI m) (x := plS j) (K := 999) ⟨by omega, by omega⟩ (by omega) ⟨by omega, by omega⟩
  have e2 : (nI m * plS j).toInt = m * ((j : Int) - 9) := by rw [b.2.2, em, ep]
  have e : (x + nI m * plS j).toInt = x.toInt + m * ((j : Int) - 9) := by rw [fb_addI (by omega) (by omega), e2]
  unfold phS
  rw [jabs_i (by rw [e, ← e2]; omega), e]
  refine ⟨rfl, ?_, ?_⟩
  · exact Int.natCast_nonneg _
  · show ((x.toInt + m * ((j : Int) - 9)).natAbs : Int) ≤ 99999
    rw [← e2]
    omega
section WING
variable {h : Hp}
theorem x_best {x : Int32} (hx : -89919 ≤ x.toInt ∧ x.toInt ≤ 89919) {m : Nat} (hm : m ≤ 999) : F_X11_bestPlace x (nI m) h = some (plS (amS (phS x m) 19)) := by
  unfold F_X11_bestPlace F_X11_bestPlace_b0
  have al : ∀ j, j ≤ 19 → amS (phS x m) j < 19 := by
    intro j hj
    cases j with
    | zero => show 0 < 19; omega
    | succ n => have := (amS_ok (phS x m) n).1; omega
  refine ob_p (iter_at (fun j => (plS (amS (phS x m) j), plS j)) 19 (plS (amS (phS x m) 19)) rfl (fun j hj => ?_) ?_ (FU_lt (by omega))) _
  · show F_X11_bestPlace_l6 x (nI m) (plS (amS (phS x m) j)) (plS j) h = _
    unfold F_X11_bestPlace_l6 F_X11_bestPlace_b33
    rw [if_neg (by rw [plS_9 (by omega)]; omega), plS_s]
    have e1 := ph_eq hx hm (al j (by omega))
    have e2 := ph_eq hx hm hj
    show _ = some (Sum.inl (plS (if phS x m (amS (phS x m) j) ≤ phS x m j then amS (phS x m) j else j), plS (j + 1)))
    by_cases q : phS x m (amS (phS x m) j) ≤ phS x m j
    · rw [if_pos (by rw [fa_le, e1.1, e2.1]; exact q), if_pos q]
    · rw [if_neg (by rw [fa_le, e1.1, e2.1]; exact q), if_neg q]
  · show F_X11_bestPlace_l6 x (nI m) (plS (amS (phS x m) 19)) (plS 19) h = _
    unfold F_X11_bestPlace_l6
    rw [if_pos (by decide)]
def wvS (x y : Int32) (m k : Nat) : Int32 := jabs (x + nI m * plS (k % 19)) + jabs (y + nI m * plS (k / 19))
def wpS (x y : Int32) (m : Nat) : Nat → Int := fun k => phS x m (k % 19) + phS y m (k / 19)
theorem wv_eq {x y : Int32} (hx : -89919 ≤ x.toInt ∧ x.toInt ≤ 89919) (hy : -89919 ≤ y.toInt ∧ y.toInt ≤ 89919) {m k : Nat} (hm : m ≤ 999) (hk : k < 361) : (wvS x y m k).toInt = wpS x y m k ∧ wpS x y m k ≤ 199998 := by
  have a := ph_eq hx hm (show k % 19 < 19 by omega)
  have b := ph_eq hy hm (show k / 19 < 19 by omega)
  unfold wvS wpS
  rw [fb_addI (by rw [a.1, b.1]; omega) (by rw [a.1, b.1]; omega), a.1, b.1]
  exact ⟨rfl, by omega⟩
def wlS (x y : Int32) (m k : Nat) : Int32 := if k = 0 then 2147483647 else wvS x y m (amS (wpS x y m) k)
theorem m_w70 {x y : Int32} (hx : -89919 ≤ x.toInt ∧ x.toInt ≤ 89919) (hy : -89919 ≤ y.toInt ∧ y.toInt ≤ 89919) {m Y : Nat} (hm : m ≤ 999) (hY : Y < 19) : iter (fun z : Int32 × Int32 × Int32 => F_X12_wing_l70 (nI m) x y z.1 z.2.1 (plS Y) z.2.2 h) FU (nI (amS (wpS x y m) (19 * Y)), wlS x y m (19 * Y), -9) = some (nI (amS (wpS x y m) (19 * (Y + 1))), wlS x y m (19 * (Y + 1))) := by
  have al : ∀ j, j ≤ 361 → amS (wpS x y m) j < 361 := by
    intro j hj
    cases j with
    | zero => show 0 < 361; omega
    | succ n => have := (amS_ok (wpS x y m) n).1; omega
  refine iter_at (fun j => (nI (amS (wpS x y m) (19 * Y + j)), wlS x y m (19 * Y + j), plS j)) 19 _ rfl (fun j hj => ?_) ?_ (FU_lt (by omega))
  · show F_X12_wing_l70 (nI m) x y (nI (amS (wpS x y m) (19 * Y + j))) (wlS x y m (19 * Y + j)) (plS Y) (plS j) h = some (Sum.inl (nI (if wpS x y m (amS (wpS x y m) (19 * Y + j)) ≤ wpS x y m (19 * Y + j) then amS (wpS x y m) (19 * Y + j) else 19 * Y + j), wlS x y m (19 * Y + j + 1), plS (j + 1)))
    have ev : jabs (x + nI m * plS j) + jabs (y + nI m * plS Y) = wvS x y m (19 * Y + j) := by
      unfold wvS
      rw [show (19 * Y + j) % 19 = j by omega, show (19 * Y + j) / 19 = Y by omega]
    have en : (((19 : Int32) * (plS Y + 9)) + plS j) + 9 = nI (19 * Y + j) := by
      rw [Int32.add_assoc, plS_b, plS_b, nl_19, nmul, nadd]
    unfold F_X12_wing_l70 F_X12_wing_b124
    rw [if_neg (by rw [plS_9 (by omega)]; omega), m_farOf, ob_s, ev, en, plS_s]
    have e2 := wv_eq hx hy hm (show 19 * Y + j < 361 by omega)
    have ew : wlS x y m (19 * Y + j + 1) = wvS x y m (if wpS x y m (amS (wpS x y m) (19 * Y + j)) ≤ wpS x y m (19 * Y + j) then amS (wpS x y m) (19 * Y + j) else 19 * Y + j) := by
      unfold wlS
      rw [if_neg (by omega)]
      rfl
    rw [ew]
    by_cases z : 19 * Y + j = 0
    · have y0 : Y = 0 := by omega
      have j0 : j = 0 := by omega
      subst y0
      subst j0
      have q : wvS x y m (19 * 0 + 0) < wlS x y m (19 * 0 + 0) := by
        show wvS x y m (19 * 0 + 0) < (2147483647 : Int32)
        rw [fa_lt, e2.1]
        have : (2147483647 : Int32).toInt = 2147483647 := rfl
        omega
      rw [if_pos q]
      have : (if wpS x y m (amS (wpS x y m) (19 * 0 + 0)) ≤ wpS x y m (19 * 0 + 0) then amS (wpS x y m) (19 * 0 + 0) else 19 * 0 + 0) = 19 * 0 + 0 := by
        by_cases q : wpS x y m (amS (wpS x y m) (19 * 0 + 0)) ≤ wpS x y m (19 * 0 + 0)
        · rw [if_pos q]; rfl
        · rw [if_neg q]
      rw [this]
    · have e1 := wv_eq hx hy hm (al (19 * Y + j) (by omega))
      have es : wlS x y m (19 * Y + j) = wvS x y m (amS (wpS x y m) (19 * Y + j)) := if_neg z
      rw [es]
      by_cases q : wpS x y m (amS (wpS x y m) (19 * Y + j)) ≤ wpS x y m (19 * Y + j)
      · rw [if_neg (by rw [fa_lt, e1.1, e2.1]; omega), if_pos q]
      · rw [if_pos (by rw [fa_lt, e1.1, e2.1]; omega), if_neg q]
  · show F_X12_wing_l70 (nI m) x y (nI (amS (wpS x y m) (19 * Y + 19))) (wlS x y m (19 * Y + 19)) (plS Y) (plS 19) h = _
    unfold F_X12_wing_l70
    rw [if_pos (by decide), show 19 * (Y + 1) = 19 * Y + 19 by omega]
theorem m_w59 {x y : Int32} (hx : -89919 ≤ x.toInt ∧ x.toInt ≤ 89919) (hy : -89919 ≤ y.toInt ∧ y.toInt ≤ 89919) {m : Nat} (hm : m ≤ 999) : iter (fun z : Int32 × Int32 × Int32 => F_X12_wing_l59 (nI m) x y z.1 z.2.1 z.2.2 h) FU (0, 2147483647, -9) = some (nI (19 * amS (phS y m) 19 + amS (phS x m) 19)) := by
  rw [← amS_sum]
  refine iter_at (fun j => (nI (amS (wpS x y m) (19 * j)), wlS x y m (19 * j), plS j)) 19 _ rfl (fun j hj => ?_) ?_ (FU_lt (by omega))
  · show F_X12_wing_l59 (nI m) x y (nI (amS (wpS x y m) (19 * j))) (wlS x y m (19 * j)) (plS j) h = _
    unfold F_X12_wing_l59
    rw [if_neg (by rw [plS_9 (by omega)]; omega), m_w70 hx hy hm hj, ob_s, plS_s]
    rfl
  · show F_X12_wing_l59 (nI m) x y (nI (amS (wpS x y m) (19 * 19))) (wlS x y m (19 * 19)) (plS 19) h = some (Sum.inr (nI (amS (wpS x y m) 361)))
    unfold F_X12_wing_l59
    rw [if_pos (by decide), show 19 * 19 = 361 from rfl]
theorem sit_lt {f : Nat → Int32} (i : Inv f) : ∀ g, g < nG f → sit f g < nR f := fun g hg => (igs i g hg).2.2
def wgS (f : Nat → Int32) (m : Nat) : Int32 := nI (19 * amS (phS (netS f 1 (sit f)) m) 19 + amS (phS (netS f 0 (sit f)) m) 19)
theorem x_wing {f : Nat → Int32} (s : Sh h) (i : Inv f) (c : HR (zI h) 3 f) {m : Nat} (h1 : 1 ≤ m) (h9 : m ≤ 999) : F_X11_wing 0 (nI m) h = some (.inl (wgS f m), h, 0, 0) := by
  have bx := net_bd i (show 0 < 2 by omega) (sit_lt i)
  have by' := net_bd i (show 1 < 2 by omega) (sit_lt i)
  have ee : (((19 : Int32) * (plS (amS (phS (netS f 1 (sit f)) m) 19) + 9)) + plS (amS (phS (netS f 0 (sit f)) m) 19)) + 9 = wgS f m := by
    unfold wgS
    rw [Int32.add_assoc, plS_b, plS_b, nl_19, nmul, nadd]
  unfold F_X11_wing F_X11_wing_b0
  rw [nl_1, if_neg (nI_nlt h1 (by omega)), nl_999, if_pos (nI_le h9 (by omega)), gd_d (k0 s), r0_1 s, ob_s, ob_s, gd_d (k3 s), r3_1 s, ob_s, x_net s i c (pl4 s c), ob_s, gd_d (k3 s), x_best bx h9, ob_s, ob_s, ob_s, gd_d (k3 s), r3_2 s, ob_s, x_net s i c (pl5 s c), ob_s, gd_d (k3 s), x_best by' h9, ob_s, ee]
theorem m_wing (s : Sh h) (i : Inv (zI h 60)) {m : Nat} (h1 : 1 ≤ m) (h9 : m ≤ 999) : F_X12_wing 59 (nI m) h = some (wgS (zI h 60) m, hT h) := by
  have bx := net_bd i (show 0 < 2 by omega) (sit_lt i)
  have by' := net_bd i (show 1 < 2 by omega) (sit_lt i)
  have em : (!decide (nI m < 1) && !decide (999 < nI m)) = true := by
    have a1 : ¬ nI m < 1 := nI_nlt (b := 1) h1 (by omega)
    have a2 : ¬ 999 < nI m := nI_nlt (a := 999) h9 (by omega)
    simp [a1, a2]
  have n0 : F_X12_net 59 0 (hT h) = some (netS (zI h 60) 0 (sit (zI h 60))) := by
    have := m_net (hT_sh s) (hT_i i) (show 0 < 2 by omega) (hT_s' i)
    rw [hT_60] at this
    exact this
  have n1 : F_X12_net 59 1 (hT h) = some (netS (zI h 60) 1 (sit (zI h 60))) := by
    have := m_net (hT_sh s) (hT_i i) (show 1 < 2 by omega) (hT_s' i)
    rw [hT_60] at this
    exact this
  unfold F_X12_wing F_X12_wing_b0 F_X12_wing_b22
  rw [gd_d (k59 s), t0_d, m_in, em, ob_s, b2_t, if_neg (by decide), m_thr0 (t0_s s), ob2_s, gd_d (k59 (t0_s s)), if_pos rfl, m_sitsT s i, ob2_s, gd_d (k59 (t0_s s)), n0, ob_s, gd_d (k59 (hT_sh s)), n1, ob_s]
  exact ob_p (m_w59 bx by' h9) _
theorem x_wing0 {n : Int32} (hr : n < 1 ∨ 999 < n) : F_X11_wing 0 n h = some (.inr 0, h, 1, 6) := by
  unfold F_X11_wing F_X11_wing_b0 F_X11_wing_b12
  by_cases w : n < 1
  · rw [if_pos w]
  · rw [if_neg w]
    rcases hr with q | q
    · exact absurd q w
    · rw [if_neg (fun z => Int32.not_lt.mpr z q)]
theorem m_wing0 (s : Sh h) {n : Int32} (hr : n < 1 ∨ 999 < n) : F_X12_wing 59 n h = some (0, tk h 1) := by
  have em : (!decide (n < 1) && !decide (999 < n)) = false := by
    rcases hr with q | q
    · simp [q]
    · simp [q]
  unfold F_X12_wing F_X12_wing_b0 F_X12_wing_b22
  rw [gd_d (k59 s), t0_d, m_in, em, ob_s, b2_f, if_pos rfl, m_thr1 (t0_s s), ob2_s, gd_d (k59 (t0_s s)), if_neg (by decide)]
  rfl
theorem j_wing (g : GS h) (n : Int32) : JB h (F_L_wing 0 n 72) (F_X12_wing 59 n) := by
  obtain ⟨s, i, c, -⟩ := id g
  by_cases hr : n < 1 ∨ 999 < n
  · have e := x_wing0 (h := h) hr
    refine JB_t g (k := 1) (by decide) ?_ ⟨0, zI (tk h 1), ?_, tk_m, tk_z⟩
    · unfold F_L_wing; rw [gd_d (k0 s), e, ob4_s]; rfl
    · exact m_wing0 s hr
  · have q1 : ¬ n < 1 := fun z => hr (Or.inl z)
    have q2 : ¬ 999 < n := fun z => hr (Or.inr z)
    have hp : ¬ n < 0 := fun z => q1 (by
      rw [fa_lt] at z ⊢
      have : (0 : Int32).toInt = 0 := rfl
      have : (1 : Int32).toInt = 1 := rfl
      omega)
    obtain ⟨m, hm, rfl⟩ := nI_of hp
    have h1 : 1 ≤ m := by
      rw [fa_lt, nI_toInt hm] at q1
      have : (1 : Int32).toInt = 1 := rfl
      omega
    have h9 : m ≤ 999 := by
      rw [fa_lt, nI_toInt hm] at q2
      have : (999 : Int32).toInt = 999 := rfl
      omega
    have e := x_wing s i c h1 h9
    have mw : ∀ H : Hp, Sh H → zI H 60 = zI h 60 → F_X12_wing 59 (nI m) H = some (wgS (zI h 60) m, hT H) := fun H sH eH => by
      rw [m_wing sH (by rw [eH]; exact i) h1 h9, eH]
    revert e mw
    generalize wgS (zI h 60) m = R
    intro e mw
    refine JB_r g (r := R) ?_ ⟨zI (hT h), ?_, hT_m, hT_z⟩
    · unfold F_L_wing; rw [gd_d (k0 s), e, ob4_s]; exact put_out s _
    · exact mw _ s rfl
end WING
