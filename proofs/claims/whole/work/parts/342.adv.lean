/-! THE CLASS'S WALK: on to the next seating -/
section ADV
variable {h : Hp} {f : Nat → Int32}
theorem accN_add (a : Int32) (F : Nat → Int32) : ∀ n, accN a F n = a + accN 0 F n
  | 0 => by
    show a = a + 0
    exact (Int32.add_zero a).symm
  | n + 1 => by
    show accN a F n + F n = a + (accN 0 F n + F n)
    rw [accN_add a F n, Int32.add_assoc]
def nq (f : Nat → Int32) (q b : Nat) (s : Nat → Nat) : Int32 := thg f b q + gst f b s
def wC (f D : Nat → Int32) : Prop := D 5 = lowS f 0 (tin f) ∧ D 6 = higS f 0 (tin f) ∧ D 7 = lowS f 1 (tin f) ∧ D 8 = higS f 1 (tin f) ∧ D 9 = f 8
theorem wC_D {D D' : Nat → Int32} (w : wC f D) (e : ∀ k, k ≠ 2 → k ≠ 3 → k ≠ 4 → D' k = D k) : wC f D' := by
  unfold wC
  rw [e 5 (by decide) (by decide) (by decide), e 6 (by decide) (by decide) (by decide), e 7 (by decide) (by decide) (by decide), e 8 (by decide) (by decide) (by decide), e 9 (by decide) (by decide) (by decide)]
  exact w
theorem wP_D {q m : Nat} {D D' S H : Nat → Int32} {s : Nat → Nat} (w : wP f q D S H m s) (e3 : D' 3 = D 3) (e4 : D' 4 = D 4) : wP f q D' S H m s := by
  obtain ⟨⟨w1, w2, w3, w4, w5, w6⟩, w7⟩ := w
  exact ⟨⟨w1, w2, w3, w4, by rw [e3, w5], by rw [e4, w6]⟩, w7⟩
theorem wP_congr {q m : Nat} {D S H : Nat → Int32} {s t : Nat → Nat} (w : wP f q D S H m s) (e : ∀ k, k < m → s k = t k) : wP f q D S H m t := by
  obtain ⟨⟨w1, w2, w3, w4, w5, w6⟩, w7⟩ := w
  refine ⟨⟨pv_congr e w1, fun k hk => by rw [← e k hk]; exact w2 k hk, w3, fun r hr => by rw [← hdS_congr e]; exact w4 r hr, ?_, ?_⟩, w7⟩
  · rw [w5]
    exact accN_congr (fun k hk => by unfold gw; rw [e k hk])
  · rw [w6]
    exact accN_congr (fun k hk => by unfold gw; rw [e k hk])
theorem wP_net {q : Nat} {D S H : Nat → Int32} {s : Nat → Nat} (w : wP f q D S H (nG f) s) : D 3 = nq f q 0 s ∧ D 4 = nq f q 1 s := by
  obtain ⟨⟨w1, w2, w3, w4, w5, w6⟩, w7⟩ := w
  exact ⟨by rw [w5, accN_add]; rfl, by rw [w6, accN_add]; rfl⟩
def lowB (n : Nat) (s : Nat → Nat) (g c : Nat) : Nat := (8 * ordS s g + c) * 8 ^ (n - 1 - g)
/-- no seating from P to below e -/
def noV (f : Nat → Int32) (P e : Nat) : Prop := ∀ i, P ≤ i → i < e → vI f i = false
def aI (h : Hp) (f : Nat → Int32) (q P : Nat) (D0 : Nat → Int32) (u : Nat) (z : Int32 × Int32 × Hp) : Prop :=
  ∃ j D S H, z.2.1 = nI j ∧ j + u ≤ 999999 ∧ z.2.2 = wK h D S H ∧ (∀ k, k ≠ 3 → k ≠ 4 → D k = D0 k) ∧
  ((∃ g m c0 s, g < nG f ∧ z.1 = nI g ∧ wP f q D S H m s ∧ ((m = g ∧ c0 = 0) ∨ (m = g + 1 ∧ c0 = s g + 1)) ∧ u = dW (nG f) s g c0 ∧ P ≤ lowB (nG f) s g c0 ∧ noV f P (lowB (nG f) s g c0)) ∨
   (∃ s, z.1 = nI (nG f) ∧ wP f q D S H (nG f) s ∧ P ≤ ordS s (nG f) ∧ noV f P (ordS s (nG f))) ∨
   (z.1 = -1 ∧ noV f P (8 ^ nG f)))
def aE (h : Hp) (f : Nat → Int32) (q P : Nat) (D0 : Nat → Int32) (x : Int32 × Hp) : Prop :=
  ∃ D S H, x.2 = wK h D S H ∧ (∀ k, k ≠ 3 → k ≠ 4 → D k = D0 k) ∧
  ((∃ s, x.1 = nI (nG f) ∧ wP f q D S H (nG f) s ∧ P ≤ ordS s (nG f) ∧ noV f P (ordS s (nG f))) ∨ (x.1 = -1 ∧ noV f P (8 ^ nG f)))
theorem x_advS (s' : Sh h) (i : Inv f) (c : HR (zI h) 3 f) {q P : Nat} {D0 : Nat → Int32} {u : Nat} {z : Int32 × Int32 × Hp} (a : aI h f q P D0 u z) : (∃ x, F_X9_advance_l25 45 3 z.1 z.2.1 z.2.2 = some (.inr x) ∧ aE h f q P D0 x) ∨ (∃ z' j, j < u ∧ F_X9_advance_l25 45 3 z.1 z.2.1 z.2.2 = some (.inl z') ∧ aI h f q P D0 j z') := by
  have g5 := iG5 i
  have r8 := iR8 i
  obtain ⟨j, D, S, H, e1, hj, e2, hD, cs⟩ := a
  have e5 : zI (wK h D S H) 3 5 = nI (nG f) := by rw [wK_o (by omega), c.1.2.1, iG i]
  unfold F_X9_advance_l25
  rw [e1, e2, nl_1000000, if_neg (nI_ge (by omega) (by omega))]
  rcases cs with ⟨g, m, c0, s, hg, ez, w, hm, hu, hP, hn⟩ | ⟨s, ez, w, hP, hn⟩ | ⟨ez, hn⟩
  · have h8 : ∀ k, k < g → s k < 8 := fun k hk => by
      have := (w.1.1 k (by rcases hm with ⟨h1, -⟩ | ⟨h1, -⟩ <;> omega)).1
      omega
    rw [ez, if_neg (nI_pos (by omega)), wK_k, gd_d (k3 s'), e5, if_neg (nI_ge hg (by omega))]
    rcases x_sf s' i c hg w hm with ⟨r, D', S', H', a1, a2, a3, a4, a5, a6⟩ | ⟨D', S', H', a1, a2, a3, a4⟩
    · have ls : lowB (nG f) s g c0 ≤ (8 * ordS s g + r) * 8 ^ (nG f - 1 - g) := Nat.mul_le_mul_right _ (by omega)
      have no : noV f P ((8 * ordS s g + r) * 8 ^ (nG f - 1 - g)) := fun y h1 h2 => by
        by_cases p : y < lowB (nG f) s g c0
        · exact hn y h1 p
        · exact vI_skip hg h8 (fun r' q1 q2 => Or.inr (a3 r' q1 q2)) (by omega) (by unfold lowB at p; omega) h2
      have eo : ordS (va_up s g r) g = ordS s g := ordS_congr (fun k hk => va_n _ _ _ _ (by omega))
      have eo1 : ordS (va_up s g r) (g + 1) = 8 * ordS s g + r := by rw [ordS_s, eo, va_e]
      right
      rw [a4, ob2_s, wK_k, gd_d (k45 s'), if_neg (by decide)]
      by_cases p : g + 1 = nG f
      · refine ⟨(nI (g + 1), nI (j + 1), wK h D' S' H'), 0, ?_, ?_, j + 1, D', S', H', rfl, ?_, rfl, fun k k3 k4 => by rw [a6 k k3 k4, hD k k3 k4], Or.inr (Or.inl ⟨va_up s g r, by rw [p], by rw [← p]; exact a5, ?_, ?_⟩)⟩
        · rw [hu]
          unfold dW
          omega
        · unfold F_X9_advance_b58
          rw [nI_1, nI_1]
        · have : 0 < dW (nG f) s g c0 := by unfold dW; omega
          omega
        · rw [← p, eo1]
          rw [show nG f - 1 - g = 0 by omega, Nat.pow_zero, Nat.mul_one] at ls
          omega
        · rw [← p, eo1]
          rw [show nG f - 1 - g = 0 by omega, Nat.pow_zero, Nat.mul_one] at no
          exact no
      · have el : lowB (nG f) (va_up s g r) (g + 1) 0 = (8 * ordS s g + r) * 8 ^ (nG f - 1 - g) := by
          unfold lowB
          rw [eo1, show nG f - 1 - g = nG f - 1 - (g + 1) + 1 by omega, Nat.pow_succ, Nat.add_zero, Nat.mul_comm 8 (8 * ordS s g + r), Nat.mul_assoc, Nat.mul_comm 8 (8 ^ _)]
        have lt := dW_up (s := s) (c := c0) (show r < 8 by omega) a1 (show g + 1 < nG f by omega)
        refine ⟨(nI (g + 1), nI (j + 1), wK h D' S' H'), dW (nG f) (va_up s g r) (g + 1) 0, ?_, ?_, j + 1, D', S', H', rfl, ?_, rfl, fun k k3 k4 => by rw [a6 k k3 k4, hD k k3 k4], Or.inl ⟨g + 1, g + 1, 0, va_up s g r, by omega, rfl, a5, Or.inl ⟨rfl, rfl⟩, rfl, ?_, ?_⟩⟩
        · rw [hu]
          exact lt
        · unfold F_X9_advance_b58
          rw [nI_1, nI_1]
        · omega
        · rw [el]
          omega
        · rw [el]
          exact no
    · have no : noV f P ((8 * ordS s g + 8) * 8 ^ (nG f - 1 - g)) := fun y h1 h2 => by
        by_cases p : y < lowB (nG f) s g c0
        · exact hn y h1 p
        · exact vI_skip hg h8 (fun r' q1 q2 => by
            by_cases p2 : nR f ≤ r'
            · exact Or.inl p2
            · exact Or.inr (a1 r' q1 (by omega))) (by omega) (by unfold lowB at p; omega) h2
      right
      rw [a2, ob2_s, wK_k, gd_d (k45 s'), if_pos rfl]
      cases g with
      | zero =>
        refine ⟨(-1, nI (j + 1), wK h D' S' H'), 0, ?_, ?_, j + 1, D', S', H', rfl, ?_, rfl, fun k k3 k4 => by rw [a4 k k3 k4, hD k k3 k4], Or.inr (Or.inr ⟨rfl, ?_⟩)⟩
        · rw [hu]
          unfold dW
          omega
        · unfold F_X9_advance_b58
          rw [nI_1]
          rfl
        · have : 0 < dW (nG f) s 0 c0 := by unfold dW; omega
          omega
        · have e8 : (8 * ordS s 0 + 8) * 8 ^ (nG f - 1 - 0) = 8 ^ nG f := by
            obtain ⟨m2, hm2⟩ : ∃ m2, nG f = m2 + 1 := ⟨nG f - 1, by omega⟩
            rw [hm2, show m2 + 1 - 1 - 0 = m2 by omega, Nat.pow_succ, Nat.mul_comm]
            rfl
          rw [e8] at no
          exact no
      | succ k =>
        have lt := dW_down (n := nG f) (s := s) (k := k) (c := c0)
        have el : lowB (nG f) s k (s k + 1) = (8 * ordS s (k + 1) + 8) * 8 ^ (nG f - 1 - (k + 1)) := by
          unfold lowB
          rw [ordS_s, show nG f - 1 - k = nG f - 1 - (k + 1) + 1 by omega, Nat.pow_succ, show 8 * (8 * ordS s k + s k) + 8 = (8 * ordS s k + (s k + 1)) * 8 by omega, Nat.mul_assoc, Nat.mul_comm 8 (8 ^ _)]
        have ge : lowB (nG f) s (k + 1) c0 ≤ (8 * ordS s (k + 1) + 8) * 8 ^ (nG f - 1 - (k + 1)) := Nat.mul_le_mul_right _ (by
          rcases hm with ⟨-, h1⟩ | ⟨h0, h1⟩
          · omega
          · have := (w.1.1 (k + 1) (by omega)).1
            omega)
        refine ⟨(nI k, nI (j + 1), wK h D' S' H'), dW (nG f) s k (s k + 1), ?_, ?_, j + 1, D', S', H', rfl, ?_, rfl, fun k2 k3 k4 => by rw [a4 k2 k3 k4, hD k2 k3 k4], Or.inl ⟨k, k + 1, s k + 1, s, by omega, rfl, a3, Or.inr ⟨rfl, rfl⟩, rfl, ?_, ?_⟩⟩
        · rw [hu]
          exact lt
        · unfold F_X9_advance_b58
          rw [nI_1, pk_m1]
        · omega
        · rw [el]
          omega
        · rw [el]
          exact no
  · left
    refine ⟨(nI (nG f), wK h D S H), ?_, D, S, H, rfl, hD, Or.inl ⟨s, rfl, w, hP, hn⟩⟩
    rw [ez, if_neg (nI_pos (by omega)), wK_k, gd_d (k3 s'), e5, if_pos (Int32.le_refl _)]
  · left
    refine ⟨(-1, wK h D S H), ?_, D, S, H, rfl, hD, Or.inr ⟨rfl, hn⟩⟩
    rw [ez, if_pos (by decide)]
/-- the walk stands so that all below P have been seen -/
def wA (f : Nat → Int32) (q : Nat) (D S H : Nat → Int32) (P : Nat) : Prop := wC f D ∧ ((D 2 = 1 ∧ P = 0 ∧ wP f q D S H 0 (fun _ => 0)) ∨ (D 2 = 0 ∧ ∃ i, i < 8 ^ nG f ∧ P = i + 1 ∧ wP f q D S H (nG f) (dg (nG f) i)))
def adE (h : Hp) (f : Nat → Int32) (q P : Nat) (o : Option (Int32 × Hp)) : Prop :=
  (∃ i D' S' H', P ≤ i ∧ i < 8 ^ nG f ∧ noV f P i ∧ vI f i = true ∧ o = some (1, wK h D' S' H') ∧ wA f q D' S' H' (i + 1) ∧ wC f D' ∧ wP f q D' S' H' (nG f) (dg (nG f) i)) ∨
  (∃ D' S' H', noV f P (8 ^ nG f) ∧ o = some (0, wK h D' S' H'))
theorem x_adv17 (s' : Sh h) (i : Inv f) (c : HR (zI h) 3 f) {q P : Nat} {D S H : Nat → Int32} (hC : wC f D) {v : Int32} {n0 : Nat} (a : aI h f q P (va_up D 2 0) n0 (v, 0, wK h (va_up D 2 0) S H)) (hn0 : n0 ≤ 300000) : adE h f q P (F_X9_advance_b17 45 3 v (wK h D S H)) := by
  have g5 := iG5 i
  have r8 := iR8 i
  obtain ⟨x, hx, D1, S1, H1, e1, hD, cs⟩ := iter_ex (body := fun z : Int32 × Int32 × Hp => F_X9_advance_l25 45 3 z.1 z.2.1 z.2.2) (aI h f q P (va_up D 2 0)) (aE h f q P (va_up D 2 0)) (fun j z hI => x_advS s' i c hI) FU n0 _ (FU_lt (by omega)) a
  have e5 : zI (wK h D1 S1 H1) 3 5 = nI (nG f) := by rw [wK_o (by omega), c.1.2.1, iG i]
  have hC1 : wC f D1 := wC_D hC (fun k k2 k3 k4 => by rw [hD k k3 k4, va_n _ _ _ _ k2])
  have h2 : D1 2 = 0 := by rw [hD 2 (by decide) (by decide), va_e]
  obtain ⟨x1, x2⟩ := x
  dsimp only at e1 cs
  subst e1
  unfold F_X9_advance_b17
  rw [wK_k, gd_d (k45 s'), wK_w45, hx, ob_s]
  show adE h f q P (F_X9_advance_b66 3 x1 (wK h D1 S1 H1))
  unfold F_X9_advance_b66 F_X9_advance_b79
  rw [wK_k, gd_d (k3 s'), e5, z_g, o_g]
  rcases cs with ⟨s, rfl, w, hP, hn⟩ | ⟨rfl, hn⟩
  · have h8 : ∀ k, k < nG f → s k < 8 := fun k hk => by
      have := (w.1.1 k hk).1
      omega
    have ol := ordS_lt h8
    have wd : wP f q D1 S1 H1 (nG f) (dg (nG f) (ordS s (nG f))) := wP_congr w (fun k hk => (dg_ord h8 k hk).symm)
    refine Or.inl ⟨ordS s (nG f), D1, S1, H1, hP, ol, hn, vI_ord i w.1.1, ?_, ⟨hC1, Or.inr ⟨h2, ordS s (nG f), ol, rfl, wd⟩⟩, hC1, wd⟩
    rw [if_neg (nI_nlt (Nat.le_refl _) (by omega))]
  · refine Or.inr ⟨D1, S1, H1, hn, ?_⟩
    have : (-1 : Int32) < nI (nG f) := by
      rw [fa_lt, nI_toInt (by omega)]
      have : (-1 : Int32).toInt = -1 := rfl
      omega
    rw [if_pos this]
theorem x_adv (s' : Sh h) (i : Inv f) (c : HR (zI h) 3 f) {q P : Nat} {D S H : Nat → Int32} (a : wA f q D S H P) : adE h f q P (F_X9_advance 45 3 (wK h D S H)) := by
  have g5 := iG5 i
  have r8 := iR8 i
  obtain ⟨hC, ⟨d2, rfl, w⟩ | ⟨d2, y, hy, rfl, w⟩⟩ := a
  · unfold F_X9_advance F_X9_advance_b0
    rw [wK_k, gd_d (k45 s'), wK_45, d2, if_neg (by decide)]
    have w' : wP f q (va_up D 2 0) S H 0 (fun _ => 0) := wP_D w (va_n _ _ _ _ (by decide)) (va_n _ _ _ _ (by decide))
    by_cases p : nG f = 0
    · refine x_adv17 s' i c hC (n0 := 0) ⟨0, va_up D 2 0, S, H, rfl, by omega, rfl, fun _ _ _ => rfl, Or.inr (Or.inl ⟨fun _ => 0, by rw [p]; rfl, by rw [p]; exact w', Nat.zero_le _, ?_⟩)⟩ (by omega)
      intro y h1 h2
      rw [p] at h2
      exact absurd h2 (by simp [ordS])
    · refine x_adv17 s' i c hC (n0 := dW (nG f) (fun _ => 0) 0 0) ⟨0, va_up D 2 0, S, H, rfl, ?_, rfl, fun _ _ _ => rfl, Or.inl ⟨0, 0, 0, fun _ => 0, by omega, rfl, w', Or.inl ⟨rfl, rfl⟩, rfl, Nat.zero_le _, ?_⟩⟩ (dW_le g5 (by omega))
      · have := dW_le g5 (s := fun _ => 0) (c := 0) (show 0 < nG f by omega)
        omega
      · intro y h1 h2
        exact absurd h2 (by simp [lowB, ordS])
  · have e5 : zI (wK h D S H) 3 5 = nI (nG f) := by rw [wK_o (by omega), c.1.2.1, iG i]
    unfold F_X9_advance F_X9_advance_b0
    rw [wK_k, gd_d (k45 s'), wK_45, d2, if_pos rfl, wK_k, gd_d (k3 s'), e5]
    have w' : wP f q (va_up D 2 0) S H (nG f) (dg (nG f) y) := wP_D w (va_n _ _ _ _ (by decide)) (va_n _ _ _ _ (by decide))
    have oy := ord_dg hy
    by_cases p : nG f = 0
    · refine x_adv17 s' i c hC (n0 := 0) ⟨0, va_up D 2 0, S, H, rfl, by omega, rfl, fun _ _ _ => rfl, Or.inr (Or.inr ⟨by rw [p]; rfl, ?_⟩)⟩ (by omega)
      intro z h1 h2
      rw [p] at h2
      simp at h2
      omega
    · obtain ⟨k, hk⟩ : ∃ k, nG f = k + 1 := ⟨nG f - 1, by omega⟩
      have el : lowB (nG f) (dg (nG f) y) k (dg (nG f) y k + 1) = y + 1 := by
        have o2 : 8 * ordS (dg (nG f) y) k + dg (nG f) y k = y := by
          rw [← ordS_s, ← hk]
          exact oy
        unfold lowB
        rw [show nG f - 1 - k = 0 by omega, Nat.pow_zero, Nat.mul_one]
        omega
      refine x_adv17 s' i c hC (n0 := dW (nG f) (dg (nG f) y) k (dg (nG f) y k + 1)) ⟨0, va_up D 2 0, S, H, rfl, ?_, rfl, fun _ _ _ => rfl, Or.inl ⟨k, nG f, dg (nG f) y k + 1, dg (nG f) y, by omega, by rw [hk, nI_pred], w', Or.inr ⟨hk, rfl⟩, rfl, ?_, ?_⟩⟩ (dW_le g5 (by omega))
      · have := dW_le g5 (s := dg (nG f) y) (c := dg (nG f) y k + 1) (show k < nG f by omega)
        omega
      · rw [el]
        omega
      · intro z h1 h2
        rw [el] at h2
        omega
/-- a loop over the walk -/
theorem walk_loop (i : Inv f) {A σ X : Type} {body : σ → Option (σ ⊕ X)} (st : A → Nat → (Nat → Int32) → (Nat → Int32) → (Nat → Int32) → σ) (q : Nat) (I : Nat → A → Prop) (E : X → Prop)
    (hb : ∀ a k D S H P, I P a → wA f q D S H P → k ≤ P → k < 32768 → (∃ y a' D' S' H', P ≤ y ∧ y < 8 ^ nG f ∧ body (st a k D S H) = some (.inl (st a' (k + 1) D' S' H')) ∧ wA f q D' S' H' (y + 1) ∧ I (y + 1) a') ∨ (∃ x, body (st a k D S H) = some (.inr x) ∧ E x))
    (he : ∀ a D S H, I (8 ^ nG f) a → ∃ x, body (st a 32768 D S H) = some (.inr x) ∧ E x)
    {a0 : A} {D0 S0 H0 : Nat → Int32} (h0 : I 0 a0) (w0 : wA f q D0 S0 H0 0) : ∃ x, iter body FU (st a0 0 D0 S0 H0) = some x ∧ E x := by
  have p8 := pow8 (iG5 i)
  refine iter_ex (fun u z => ∃ a k D S H P, z = st a k D S H ∧ I P a ∧ wA f q D S H P ∧ k ≤ P ∧ P ≤ 8 ^ nG f ∧ u = 8 ^ nG f - P) E (fun u z hI => ?_) FU (8 ^ nG f) _ (FU_lt (by omega)) ⟨a0, 0, D0, S0, H0, 0, rfl, h0, w0, Nat.le_refl _, Nat.zero_le _, rfl⟩
  obtain ⟨a, k, D, S, H, P, rfl, hI, hw, hk, hP, rfl⟩ := hI
  by_cases q2 : k < 32768
  · rcases hb a k D S H P hI hw hk q2 with ⟨y, a', D', S', H', y1, y2, y3, y4, y5⟩ | ⟨x, x1, x2⟩
    · exact Or.inr ⟨_, 8 ^ nG f - (y + 1), by omega, y3, a', k + 1, D', S', H', y + 1, rfl, y5, y4, by omega, by omega, rfl⟩
    · exact Or.inl ⟨x, x1, x2⟩
  · have e1 : P = 8 ^ nG f := by omega
    have e2 : k = 32768 := by omega
    subst e2
    rw [e1] at hI
    exact Or.inl (he a D S H hI)
/-- what holds of all that has been seen goes on over what is no seating -/
theorem skipV {A : Type} {I : Nat → A → Prop} (hs : ∀ j a, vI f j = false → I j a → I (j + 1) a) {a : A} {P : Nat} (hI : I P a) : ∀ {e : Nat}, P ≤ e → noV f P e → I e a
  | 0, he, _ => by
    have : P = 0 := by omega
    subst this
    exact hI
  | e + 1, he, hn => by
    by_cases p : P = e + 1
    · subst p
      exact hI
    · exact hs e a (hn e (by omega) (by omega)) (skipV hs hI (by omega) (fun j h1 h2 => hn j h1 (by omega)))
end ADV
