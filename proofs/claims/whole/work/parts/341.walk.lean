/-! THE CLASS'S WALK: one step of it -/
section WALK
variable {h : Hp} {f : Nat → Int32}
theorem k45 (s : Sh h) : kd h 45 = 8 := by unfold Sh at s; simp only [s]
theorem r45_0 (s : Sh h) : zR h 45 0 = some 46 := by unfold Sh at s; simp only [s]
theorem r45_1 (s : Sh h) : zR h 45 1 = some 47 := by unfold Sh at s; simp only [s]
theorem k46 (s : Sh h) : kd h 46 = 13 := by unfold Sh at s; simp only [s]
theorem k47 (s : Sh h) : kd h 47 = 13 := by unfold Sh at s; simp only [s]
theorem l46 (s : Sh h) : zl h 46 = 5 := by unfold Sh at s; simp only [s]
theorem l47 (s : Sh h) : zl h 47 = 8 := by unfold Sh at s; simp only [s]
theorem r0_5 (s : Sh h) : zR h 0 5 = some 45 := by unfold Sh at s; simp only [s]
def wK (h : Hp) (D S H : Nat → Int32) : Hp := wI h (va_up (va_up (va_up (zI h) 46 S) 47 H) 45 D)
theorem wK_46 {D S H : Nat → Int32} : zI (wK h D S H) 46 = S := by
  unfold wK
  rw [wI_I, va_n _ _ _ _ (by decide), va_n _ _ _ _ (by decide), va_e]
theorem wK_47 {D S H : Nat → Int32} : zI (wK h D S H) 47 = H := by
  unfold wK
  rw [wI_I, va_n _ _ _ _ (by decide), va_e]
theorem wK_45 {D S H : Nat → Int32} : zI (wK h D S H) 45 = D := by
  unfold wK
  rw [wI_I, va_e]
theorem wK_o {D S H : Nat → Int32} {a : Nat} (h1 : a < 45 ∨ 47 < a) : zI (wK h D S H) a = zI h a := by
  unfold wK
  rw [wI_I, va_n _ _ _ _ (by omega), va_n _ _ _ _ (by omega), va_n _ _ _ _ (by omega)]
theorem wK_k {D S H : Nat → Int32} (a : Nat) : kd (wK h D S H) a = kd h a := rfl
theorem wK_l {D S H : Nat → Int32} (a : Nat) : zl (wK h D S H) a = zl h a := rfl
theorem wK_r {D S H : Nat → Int32} : zR (wK h D S H) = zR h := rfl
theorem wK_s {D S H : Nat → Int32} (s : Sh h) : Sh (wK h D S H) := s
theorem wK_e {D S H : Nat → Int32} {J : Nat → Nat → Int32} (e : ∀ a, J a = if a = 45 then D else if a = 46 then S else if a = 47 then H else zI h a) : wI h J = wK h D S H := by
  unfold wK
  congr 1
  funext a
  rw [e a]
  by_cases h1 : a = 45
  · subst h1
    rw [if_pos rfl, va_e]
  · rw [if_neg h1, va_n _ _ _ _ h1]
    by_cases h2 : a = 46
    · subst h2
      rw [if_pos rfl, va_n _ _ _ _ (by decide), va_e]
    · rw [if_neg h2]
      by_cases h3 : a = 47
      · subst h3
        rw [if_pos rfl, va_e]
      · rw [if_neg h3, va_n _ _ _ _ h3, va_n _ _ _ _ h2]
theorem wK_at {D S H : Nat → Int32} (a : Nat) : zI (wK h D S H) a = if a = 45 then D else if a = 46 then S else if a = 47 then H else zI h a := by
  by_cases h1 : a = 45
  · subst h1
    rw [if_pos rfl, wK_45]
  · rw [if_neg h1]
    by_cases h2 : a = 46
    · subst h2
      rw [if_pos rfl, wK_46]
    · rw [if_neg h2]
      by_cases h3 : a = 47
      · subst h3
        rw [if_pos rfl, wK_47]
      · rw [if_neg h3, wK_o (by omega)]
theorem wK_w45 {D S H : Nat → Int32} {k : Nat} {v : Int32} : setI (wK h D S H) 45 k v = wK h (va_up D k v) S H := by
  rw [setI_w]
  show wI h _ = _
  refine wK_e (fun a => ?_)
  by_cases h1 : a = 45
  · subst h1
    rw [if_pos rfl, up2_v1, wK_45]
  · rw [up2_a _ _ _ _ _ h1, wK_at, if_neg h1, if_neg h1]
theorem wK_w46 {D S H : Nat → Int32} {k : Nat} {v : Int32} : setI (wK h D S H) 46 k v = wK h D (va_up S k v) H := by
  rw [setI_w]
  show wI h _ = _
  refine wK_e (fun a => ?_)
  by_cases h1 : a = 46
  · subst h1
    rw [if_neg (by decide), if_pos rfl, up2_v1, wK_46]
  · rw [up2_a _ _ _ _ _ h1, wK_at, if_neg h1, if_neg h1]
theorem wK_w47 {D S H : Nat → Int32} {k : Nat} {v : Int32} : setI (wK h D S H) 47 k v = wK h D S (va_up H k v) := by
  rw [setI_w]
  show wI h _ = _
  refine wK_e (fun a => ?_)
  by_cases h1 : a = 47
  · subst h1
    rw [if_neg (by decide), if_neg (by decide), if_pos rfl, up2_v1, wK_47]
  · rw [up2_a _ _ _ _ _ h1, wK_at, if_neg h1, if_neg h1]
theorem wK_0 : wK h (zI h 45) (zI h 46) (zI h 47) = h := by
  rw [← wK_e (h := h) (J := zI h) (fun a => ?_)]
  · exact wI_0 h
  · by_cases h1 : a = 45
    · subst h1
      rw [if_pos rfl]
    · rw [if_neg h1]
      by_cases h2 : a = 46
      · subst h2
        rw [if_pos rfl]
      · rw [if_neg h2]
        by_cases h3 : a = 47
        · subst h3
          rw [if_pos rfl]
        · rw [if_neg h3]
theorem wK_c {D S H : Nat → Int32} (i : Inv f) (c : HR (zI h) 3 f) : HR (zI (wK h D S H)) 3 f := HR_congr (f := f) (fun a ha => wK_o (by omega)) (fun g hg => ⟨wK_o (by omega), wK_o (by omega)⟩) (fun _ _ => rfl) i c
/-- what a guest in a room does -/
def gw (f : Nat → Int32) (b : Nat) (s : Nat → Nat) (g : Nat) : Int32 := f (43 + 2 * g) * f (11 + 4 * s g + b)
/-- heads and sums of the first m guests -/
def wQ (f : Nat → Int32) (q : Nat) (D S H : Nat → Int32) (m : Nat) (s : Nat → Nat) : Prop :=
  pv f s m ∧ (∀ k, k < m → S k = nI (s k)) ∧ (∀ k, m < k → k < 5 → S k = -1) ∧ (∀ r, r < 8 → H r = nI (hdS s m r)) ∧ D 3 = accN (thg f 0 q) (gw f 0 s) m ∧ D 4 = accN (thg f 1 q) (gw f 1 s) m
def wP (f : Nat → Int32) (q : Nat) (D S H : Nat → Int32) (m : Nat) (s : Nat → Nat) : Prop := wQ f q D S H m s ∧ (m < 5 → S m = -1)
theorem wQ_up (i : Inv f) {q g r : Nat} {D S H : Nat → Int32} {s : Nat → Nat} (w : wQ f q D S H g s) (hr : r < nR f) (hb : hdS s g r < bd f r) {D' : Nat → Int32} (d3 : D' 3 = D 3 + f (43 + 2 * g) * f (11 + 4 * r)) (d4 : D' 4 = D 4 + f (43 + 2 * g) * f (12 + 4 * r)) : wP f q D' (va_up S g (nI r)) (va_up H r (H r + 1)) (g + 1) (va_up s g r) := by
  obtain ⟨w1, w2, w3, w4, w5, w6⟩ := w
  have r8 := iR8 i
  have cg : ∀ k, k < g → s k = va_up s g r k := fun k hk => (va_n _ _ _ _ (by omega)).symm
  refine ⟨⟨pv_s.mpr ⟨pv_congr cg w1, ?_, ?_⟩, fun k hk => ?_, fun k h1 h2 => ?_, fun x hx => ?_, ?_, ?_⟩, fun h5 => ?_⟩
  · rw [va_e]
    exact hr
  · rw [va_e, ← hdS_congr cg]
    exact hb
  · by_cases e : k = g
    · subst e
      rw [va_e, va_e]
    · rw [va_n _ _ _ _ e, va_n _ _ _ _ e]
      exact w2 k (by omega)
  · rw [va_n _ _ _ _ (by omega)]
    exact w3 k (by omega) h2
  · rw [hdS_s, va_e, ← hdS_congr cg]
    by_cases e : x = r
    · subst e
      rw [va_e, if_pos rfl, w4 x hx, nI_1]
    · rw [va_n _ _ _ _ e, if_neg (fun z => e z.symm), w4 x hx]
      rfl
  · rw [d3, w5]
    show _ = accN (thg f 0 q) (gw f 0 (va_up s g r)) g + gw f 0 (va_up s g r) g
    unfold gw
    rw [va_e, accN_congr (f := fun k => f (43 + 2 * k) * f (11 + 4 * s k + 0)) (g := fun k => f (43 + 2 * k) * f (11 + 4 * va_up s g r k + 0)) (fun k hk => by rw [cg k hk])]
    rfl
  · rw [d4, w6]
    show _ = accN (thg f 1 q) (gw f 1 (va_up s g r)) g + gw f 1 (va_up s g r) g
    unfold gw
    rw [va_e, accN_congr (f := fun k => f (43 + 2 * k) * f (11 + 4 * s k + 1)) (g := fun k => f (43 + 2 * k) * f (11 + 4 * va_up s g r k + 1)) (fun k hk => by rw [cg k hk]), show 12 + 4 * r = 11 + 4 * r + 1 by omega]
  · rw [va_n _ _ _ _ (by omega)]
    exact w3 _ (by omega) h5
/-- the next room with a free bed -/
theorem x_sfL (s' : Sh h) (i : Inv f) (c : HR (zI h) 3 f) {D S H : Nat → Int32} {g c0 : Nat} {s : Nat → Nat} (w4 : ∀ r, r < 8 → H r = nI (hdS s g r)) (hg : g < 5) (hc : c0 ≤ nR f) : ∃ x, iter (fun z : Int32 => F_X9_seatFurther_l71 45 (nI g) 3 z (wK h D S H)) FU (nI c0) = some x ∧ ((x = .inl () ∧ ∀ r, c0 ≤ r → r < nR f → bd f r ≤ hdS s g r) ∨ (∃ r, x = .inr (nI r) ∧ c0 ≤ r ∧ r < nR f ∧ hdS s g r < bd f r ∧ ∀ y, c0 ≤ y → y < r → bd f y ≤ hdS s g y)) := by
  have r8 := iR8 i
  refine iter_ex (fun j z => ∃ r, z = nI r ∧ j = nR f - r ∧ c0 ≤ r ∧ r ≤ nR f ∧ ∀ y, c0 ≤ y → y < r → bd f y ≤ hdS s g y) _ (fun j z hI => ?_) FU (nR f - c0) (nI c0) (FU_lt (by omega)) ⟨c0, rfl, rfl, Nat.le_refl _, hc, fun y h1 h2 => absurd h2 (by omega)⟩
  obtain ⟨r, rfl, rfl, h1, h2, h3⟩ := hI
  have e0 : zI (wK h D S H) 3 0 = nI (nR f) := by rw [wK_o (by omega), c.1.1, iR i]
  by_cases q : r = nR f
  · refine Or.inl ⟨.inl (), ?_, Or.inl ⟨rfl, fun y hy1 hy2 => h3 y hy1 (by omega)⟩⟩
    unfold F_X9_seatFurther_l71
    rw [gd_d (show kd (wK h D S H) 3 = 2 from k3 s'), e0, if_pos (nI_le (by omega) (by omega))]
  · have e6 : zI (wK h D S H) 6 r = nI (bd f r) := by
      rw [wK_o (by omega)]
      exact ((c.2.1 r (by omega)).2.2.1).trans (bd_eq i (show r < nR f by omega)).1
    have b4 := (bd_eq i (show r < nR f by omega)).2.2
    have hh := hdS_le s g r
    have step : F_X9_seatFurther_l71 45 (nI g) 3 (nI r) (wK h D S H) = if bd f r ≤ hdS s g r then some (.inl (nI (r + 1))) else some (.inr (.inr (nI r))) := by
      unfold F_X9_seatFurther_l71
      rw [gd_d (show kd (wK h D S H) 3 = 2 from k3 s'), e0, if_neg (nI_ge (by omega) (by omega)), gd_d (show kd (wK h D S H) 45 = 8 from k45 s'), wK_r, r45_1 s', ob_s, wK_k, gd_d (k47 s'), wK_l, l47 s', ix_t (by omega) (by omega), gd_t, r3_3 s', ob_s, wK_k, gd_d (k6 s'), wK_l, l6 s', ix_t (by omega) (by omega), gd_t, ncl (by omega), e6, wK_47, w4 r (by omega), nI_1]
      by_cases p : bd f r ≤ hdS s g r
      · rw [if_pos p, if_pos (nI_le p (by omega))]
      · rw [if_neg p, if_neg (nI_ge (by omega) (by omega))]
    by_cases p : bd f r ≤ hdS s g r
    · rw [if_pos p] at step
      refine Or.inr ⟨nI (r + 1), nR f - (r + 1), by omega, step, r + 1, rfl, rfl, by omega, by omega, fun y hy1 hy2 => ?_⟩
      by_cases e : y = r
      · subst e
        exact p
      · exact h3 y hy1 (by omega)
    · rw [if_neg p] at step
      exact Or.inl ⟨_, step, Or.inr ⟨r, rfl, h1, by omega, by omega, h3⟩⟩
/-- what a step of the walk does: a further room, or out of all -/
def sfE (h : Hp) (f : Nat → Int32) (q : Nat) (D : Nat → Int32) (s : Nat → Nat) (g c0 : Nat) (o : Option (Int32 × Hp)) : Prop :=
  (∃ r D' S' H', c0 ≤ r ∧ r < nR f ∧ (∀ y, c0 ≤ y → y < r → bd f y ≤ hdS s g y) ∧ o = some (1, wK h D' S' H') ∧ wP f q D' S' H' (g + 1) (va_up s g r) ∧ ∀ k, k ≠ 3 → k ≠ 4 → D' k = D k) ∨
  (∃ D' S' H', (∀ y, c0 ≤ y → y < nR f → bd f y ≤ hdS s g y) ∧ o = some (0, wK h D' S' H') ∧ wP f q D' S' H' g s ∧ ∀ k, k ≠ 3 → k ≠ 4 → D' k = D k)
theorem x_sf66 (s' : Sh h) (i : Inv f) (c : HR (zI h) 3 f) {q g c0 : Nat} {D S H : Nat → Int32} {s : Nat → Nat} (hg : g < nG f) (w : wQ f q D S H g s) {v : Int32} (hv : v + 1 = nI c0) (hc : c0 ≤ nR f) : sfE h f q D s g c0 (F_X9_seatFurther_b66 45 (nI g) 3 v (wK h D S H)) := by
  have g5 := iG5 i
  have r8 := iR8 i
  obtain ⟨x, hx, hE⟩ := x_sfL s' i c (D := D) (S := S) w.2.2.2.1 (show g < 5 by omega) hc
  unfold F_X9_seatFurther_b66
  rw [hv, hx, ob_s]
  rcases hE with ⟨rfl, no⟩ | ⟨r, rfl, h1, h2, h3, h4⟩
  · refine Or.inr ⟨D, va_up S g (-1), H, no, ?_, ⟨⟨w.1, fun k hk => ?_, fun k h1 h2 => ?_, w.2.2.2.1, w.2.2.2.2.1, w.2.2.2.2.2⟩, fun _ => va_e _ _ _⟩, fun _ _ _ => rfl⟩
    · rw [sm_l, wK_k, gd_d (k45 s'), wK_r, r45_0 s', ob_s, wK_k, gd_d (k46 s'), wK_l, l46 s', ix_t (by omega) (by omega), gd_t, ncl (by omega), wK_w46]
    · rw [va_n _ _ _ _ (by omega)]
      exact w.2.1 k hk
    · rw [va_n _ _ _ _ (by omega)]
      exact w.2.2.1 k h1 h2
  · refine Or.inl ⟨r, va_up (va_up D 3 (D 3 + f (43 + 2 * g) * f (11 + 4 * r))) 4 (D 4 + f (43 + 2 * g) * f (12 + 4 * r)), va_up S g (nI r), va_up H r (H r + 1), h1, h2, h4, ?_, wQ_up i w h2 h3 ?_ ?_, fun k k3 k4 => ?_⟩
    · have e8 : zI h 8 g = f (43 + 2 * g) := (c.2.2.1 g (by omega)).1
      have e4 : zI h 4 r = f (11 + 4 * r) := (c.2.1 r (by omega)).1
      have e5 : zI h 5 r = f (12 + 4 * r) := (c.2.1 r (by omega)).2.1
      rw [sm_r, wK_k, gd_d (k45 s'), wK_r, r45_0 s', ob_s, wK_k, gd_d (k46 s'), wK_l, l46 s', ix_t (by omega) (by omega), gd_t, ncl (by omega), wK_w46, wK_r, r45_1 s', ob_s, wK_k, gd_d (k47 s'), wK_l, l47 s', ix_t (by omega) (by omega), gd_t, gd_t, ob_s, ncl (by omega), wK_47, wK_w47, wK_k, gd_d (k3 s'), wK_r, r3_6 s', ob_s, wK_k, gd_d (k8 s'), wK_l, l8 s', ix_t (by omega) (by omega), gd_t, r3_1 s', ob_s, wK_k, gd_d (k4 s'), wK_l, l4 s', ix_t (by omega) (by omega), gd_t, wK_45, wK_o (a := 8) (by omega), wK_o (a := 4) (by omega), e8, e4, wK_w45, wK_r, r3_6 s', ob_s, wK_k, gd_d (k8 s'), wK_l, l8 s', ix_t (by omega) (by omega), gd_t, r3_2 s', ob_s, wK_k, gd_d (k5 s'), wK_l, l5 s', ix_t (by omega) (by omega), gd_t, ob_s, wK_45, wK_o (a := 8) (by omega), wK_o (a := 5) (by omega), e8, e5, wK_w45, va_n _ _ _ _ (by decide)]
    · rw [va_n _ _ _ _ (by decide), va_e]
    · rw [va_e]
    · rw [va_n _ _ _ _ k4, va_n _ _ _ _ k3]
theorem neg1_nI {n : Nat} (hn : n < 2147483648) : ¬ nI n = -1 := by
  intro e
  rw [fa_eq, nI_toInt hn] at e
  have : (-1 : Int32).toInt = -1 := rfl
  omega
theorem x_sf (s' : Sh h) (i : Inv f) (c : HR (zI h) 3 f) {q g m c0 : Nat} {D S H : Nat → Int32} {s : Nat → Nat} (hg : g < nG f) (w : wP f q D S H m s) (hm : (m = g ∧ c0 = 0) ∨ (m = g + 1 ∧ c0 = s g + 1)) : sfE h f q D s g c0 (F_X9_seatFurther 45 (nI g) 3 (wK h D S H)) := by
  have g5 := iG5 i
  have r8 := iR8 i
  unfold F_X9_seatFurther F_X9_seatFurther_b0
  rw [wK_k, gd_d (k45 s'), wK_r, r45_0 s', ob_s, wK_k, gd_d (k46 s'), wK_l, l46 s', ix_t (by omega) (by omega), gd_t, ncl (by omega), wK_46]
  rcases hm with ⟨rfl, rfl⟩ | ⟨rfl, rfl⟩
  · rw [w.2 (by omega), if_pos rfl]
    exact x_sf66 s' i c hg w.1 (by decide) (by omega)
  · obtain ⟨⟨w1, w2, w3, w4, w5, w6⟩, w7⟩ := w
    obtain ⟨p1, p2, p3⟩ := pv_s.mp w1
    have e8 : zI h 8 g = f (43 + 2 * g) := (c.2.2.1 g (by omega)).1
    have e4 : zI h 4 (s g) = f (11 + 4 * s g) := (c.2.1 (s g) (by omega)).1
    have e5 : zI h 5 (s g) = f (12 + 4 * s g) := (c.2.1 (s g) (by omega)).2.1
    have hh := hdS_le s g (s g)
    rw [w2 g (by omega), if_neg (neg1_nI (by omega)), r45_1 s', ob_s, wK_k, gd_d (k47 s'), wK_l, l47 s', ix_t (by omega) (by omega), gd_t, gd_t, ob_s, ncl (by omega), wK_47, wK_w47, wK_k, gd_d (k3 s'), wK_r, r3_6 s', ob_s, wK_k, gd_d (k8 s'), wK_l, l8 s', ix_t (by omega) (by omega), gd_t, r3_1 s', ob_s, wK_k, gd_d (k4 s'), wK_l, l4 s', ix_t (by omega) (by omega), gd_t, ob_s, wK_45, wK_o (a := 8) (by omega), wK_o (a := 4) (by omega), e8, e4, wK_w45, wK_r, r3_6 s', ob_s, wK_k, gd_d (k8 s'), wK_l, l8 s', ix_t (by omega) (by omega), gd_t, r3_2 s', ob_s, wK_k, gd_d (k5 s'), wK_l, l5 s', ix_t (by omega) (by omega), gd_t, ob_s, wK_45, wK_o (a := 8) (by omega), wK_o (a := 5) (by omega), e8, e5, wK_w45, va_n _ _ _ _ (by decide)]
    have wq : wQ f q (va_up (va_up D 3 (D 3 - f (43 + 2 * g) * f (11 + 4 * s g))) 4 (D 4 - f (43 + 2 * g) * f (12 + 4 * s g))) S (va_up H (s g) (H (s g) - 1)) g s := by
      refine ⟨p1, fun k hk => w2 k (by omega), fun k h1 h2 => ?_, fun r hr => ?_, ?_, ?_⟩
      · by_cases e : k = g + 1
        · subst e
          exact w7 h2
        · exact w3 k (by omega) h2
      · by_cases e : r = s g
        · subst e
          rw [va_e, w4 _ hr, hdS_s, if_pos rfl, nI_pred]
        · rw [va_n _ _ _ _ e, w4 _ hr, hdS_s, if_neg (fun z => e z.symm)]
          rfl
      · rw [va_n _ _ _ _ (by decide), va_e, w5]
        show accN (thg f 0 q) (gw f 0 s) g + gw f 0 s g - f (43 + 2 * g) * f (11 + 4 * s g) = _
        exact Int32.add_sub_cancel _ _
      · rw [va_e, w6, show 12 + 4 * s g = 11 + 4 * s g + 1 by omega]
        show accN (thg f 1 q) (gw f 1 s) g + gw f 1 s g - f (43 + 2 * g) * f (11 + 4 * s g + 1) = _
        exact Int32.add_sub_cancel _ _
    have r := x_sf66 s' i c hg wq (v := nI (s g)) (c0 := s g + 1) (nI_1 _) (by omega)
    rcases r with ⟨r, D', S', H', a1, a2, a3, a4, a5, a6⟩ | ⟨D', S', H', a1, a2, a3, a4⟩
    · exact Or.inl ⟨r, D', S', H', a1, a2, a3, a4, a5, fun k k3 k4 => by rw [a6 k k3 k4, va_n _ _ _ _ k4, va_n _ _ _ _ k3]⟩
    · exact Or.inr ⟨D', S', H', a1, a2, a3, fun k k3 k4 => by rw [a4 k k3 k4, va_n _ _ _ _ k4, va_n _ _ _ _ k3]⟩
end WALK
