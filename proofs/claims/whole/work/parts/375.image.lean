/-! THE IMAGE, AND BACK -/
section IMAGE
variable {h : Hp} {A B : Nat}
theorem HR_cp {I J : Nat → Nat → Int32} {f : Nat → Int32} (c : cpS I A B LH J) (i : Inv f) (r : HR I B f) : HR J A f := by
  have c1 : ∀ o a b, (o, a, b) ∈ LH → ∀ k, a ≤ k → k < b → J (A + o) k = I (B + o) k := fun o a b m k h1 h2 => c.1 (o, a, b) m k h1 h2
  have p0 : ∀ k, (0, k, k + 1) ∈ LH → J A k = I B k := fun k m => c1 0 k (k + 1) m k (Nat.le_refl k) (Nat.lt_succ_self k)
  have g5 := iG5 i
  have b20 := iB20 i
  obtain ⟨r1, r2, r3, r4, r5, r6, r7⟩ := r
  refine ⟨?_, fun r hr => ?_, fun g hg => ?_, fun t ht => ?_, fun k hk => ?_, fun b hb => ?_, fun g hg => ?_⟩
  · rw [p0 0 (by decide), p0 5 (by decide), c1 8 0 1 (by decide) 0 (by omega) (by omega), p0 14 (by decide), c1 12 0 1 (by decide) 0 (by omega) (by omega), p0 17 (by decide), p0 11 (by decide), p0 10 (by decide), p0 12 (by decide), p0 13 (by decide), p0 15 (by decide)]
    exact r1
  · rw [c1 1 0 8 (by decide) r (by omega) hr, c1 2 0 8 (by decide) r (by omega) hr, c1 3 0 8 (by decide) r (by omega) hr, c1 4 0 8 (by decide) r (by omega) hr]
    exact r2 r hr
  · rw [c1 5 0 5 (by decide) g (by omega) hg, c1 6 0 5 (by decide) g (by omega) hg]
    exact r3 g hg
  · rw [c1 9 0 6 (by decide) t (by omega) ht, c1 10 0 6 (by decide) t (by omega) ht, c1 11 0 6 (by decide) t (by omega) ht]
    exact r4 t ht
  · rw [c1 16 0 8 (by decide) k (by omega) hk, c1 17 0 8 (by decide) k (by omega) hk]
    exact r5 k hk
  · rw [c1 13 0 20 (by decide) b (by omega) (by omega), c1 14 0 20 (by decide) b (by omega) (by omega), c1 15 0 20 (by decide) b (by omega) (by omega)]
    exact r6 b hb
  · have m : ∀ g, g < 5 → (18 + 3 * g, 0, 1) ∈ LH ∧ (18 + 3 * g, 3, 4) ∈ LH ∧ (18 + 3 * g + 1, 0, 400) ∈ LH := by decide
    obtain ⟨m1, m2, m3⟩ := m g (by omega)
    have q := r7 g hg
    rw [show B + 18 + 3 * g = B + (18 + 3 * g) by omega, show B + 19 + 3 * g = B + (18 + 3 * g + 1) by omega] at q
    rw [show A + 18 + 3 * g = A + (18 + 3 * g) by omega, show A + 19 + 3 * g = A + (18 + 3 * g + 1) by omega]
    exact WR_congr (c1 _ _ _ m1 0 (by omega) (by omega)) (c1 _ _ _ m2 3 (by omega) (by omega)) (fun k hk => c1 _ _ _ m3 k (by omega) hk) (fun _ _ => rfl) q
theorem cpS_out {I J : Nat → Nat → Int32} (c : cpS I A B LH J) {a : Nat} (ha : a < A ∨ A + 33 ≤ a) : J a = I a := by
  funext k
  have ok : ∀ s, s ∈ LH → s.1 < 33 := by decide
  refine c.2 _ _ (fun s hs e => ?_)
  have := ok s hs
  omega
/-- words from a to b -/
def cpT (J : Nat → Nat → Int32) (a b j : Nat) : Nat → Nat → Int32 := va_up J b (fun k => if k < j then J a k else J b k)
theorem cpT_0 (J : Nat → Nat → Int32) (a b : Nat) : cpT J a b 0 = J := by
  funext c k
  by_cases e : c = b
  · subst e
    unfold cpT
    rw [va_e, if_neg (Nat.not_lt_zero k)]
  · unfold cpT
    rw [va_n _ _ _ _ e]
theorem cpT_a (J : Nat → Nat → Int32) {a b c : Nat} (j : Nat) (hc : c ≠ b) : cpT J a b j c = J c := va_n _ _ _ _ hc
theorem cpT_b (J : Nat → Nat → Int32) (a b j k : Nat) : cpT J a b j b k = if k < j then J a k else J b k := by
  unfold cpT
  rw [va_e]
theorem cpT_s (J : Nat → Nat → Int32) {a b : Nat} (j : Nat) (hab : a ≠ b) : up2 (cpT J a b j) b j (cpT J a b j a j) = cpT J a b (j + 1) := by
  funext c k
  by_cases e : c = b
  · subst e
    by_cases e2 : k = j
    · subst e2
      rw [up2_e, cpT_a _ _ hab, cpT_b, if_pos (by omega)]
    · rw [up2_k _ _ _ _ _ e2, cpT_b, cpT_b]
      by_cases q : k < j
      · rw [if_pos q, if_pos (by omega)]
      · rw [if_neg q, if_neg (by omega)]
  · rw [up2_a _ _ _ _ _ e, cpT_a _ _ e, cpT_a _ _ e]
theorem r59_2 (s : Sh h) : zR h 59 2 = some 61 := by unfold Sh at s; simp only [s]
theorem r59_3 (s : Sh h) : zR h 59 3 = some 62 := by unfold Sh at s; simp only [s]
theorem k61 (s : Sh h) : kd h 61 = 13 ∧ zl h 61 = 4232 := by unfold Sh at s; simp only [s, and_self]
theorem k62 (s : Sh h) : kd h 62 = 13 ∧ zl h 62 = 4232 := by unfold Sh at s; simp only [s, and_self]
theorem i_l7 (s : Sh h) (J : Nat → Nat → Int32) {j : Nat} (hj : j < 4232) : F_X12_image_l7 59 (nI j) (wI h (cpT J 60 61 j)) = some (.inl (nI (j + 1), wI h (cpT J 60 61 (j + 1)))) := by
  unfold F_X12_image_l7
  rw [nl_4232, if_neg (nI_ge hj (by omega)), nl_1]
  simp only [wI_R, wI_k, wI_l, wI_I, sI_w, k59 s, r59_1 s, r59_2 s, k60 s, l60 s, (k61 s).1, (k61 s).2, ix_t hj (show 4232 < 2147483648 by omega), ix_t (show j < 5049 by omega) (show 5049 < 2147483648 by omega), ncl (show j < 2147483648 by omega), nadd, cpT_s J j (show 60 ≠ 61 by decide), gd_t, ob_s, ob2_s, ob4_s, sm_l, sm_r, ac_s, decide_true, decide_false, eq_self, ne_eq, not_false_eq_true, not_true_eq_false, if_true, if_false, ite_true, ite_false, reduceIte, or_true, true_or, or_false, false_or, and_true, true_and, Bool.false_eq_true, reduceCtorEq]
theorem i_it (s : Sh h) (J : Nat → Nat → Int32) : iter (fun z : Int32 × Hp => F_X12_image_l7 59 z.1 z.2) FU ((0 : Int32), wI h J) = some (wI h (cpT J 60 61 4232)) := by
  refine iter_at (fun j => (nI j, wI h (cpT J 60 61 j))) 4232 (wI h (cpT J 60 61 4232)) (by rw [cpT_0]; rfl) (fun j hj => i_l7 s J hj) ?_ (FU_lt (by omega))
  show F_X12_image_l7 59 (nI 4232) _ = _
  unfold F_X12_image_l7
  rw [nl_4232, if_pos (nI_le (Nat.le_refl _) (by omega))]
theorem m_image (s : Sh h) (J : Nat → Nat → Int32) : F_X12_image 59 (wI h J) = some ((), wI h (up2 (cpT (up2 J 59 0 0) 60 61 4232) 59 4 1)) := by
  unfold F_X12_image F_X12_image_b0
  rw [wI_k, gd_d (k59 s), sI_w, i_it s, ob_s, wI_k, gd_d (k59 s), sI_w]
theorem b_l16 (s : Sh h) (J : Nat → Nat → Int32) {j : Nat} (hj : j < 4232) : F_X12_back_l16 59 (nI j) (wI h (cpT J 61 60 j)) = some (.inl (nI (j + 1), wI h (cpT J 61 60 (j + 1)))) := by
  unfold F_X12_back_l16
  rw [nl_4232, if_neg (nI_ge hj (by omega)), nl_1]
  simp only [wI_R, wI_k, wI_l, wI_I, sI_w, k59 s, r59_1 s, r59_2 s, k60 s, l60 s, (k61 s).1, (k61 s).2, ix_t hj (show 4232 < 2147483648 by omega), ix_t (show j < 5049 by omega) (show 5049 < 2147483648 by omega), ncl (show j < 2147483648 by omega), nadd, cpT_s J j (show 61 ≠ 60 by decide), gd_t, ob_s, ob2_s, ob4_s, sm_l, sm_r, ac_s, decide_true, decide_false, eq_self, ne_eq, not_false_eq_true, not_true_eq_false, if_true, if_false, ite_true, ite_false, reduceIte, or_true, true_or, or_false, false_or, and_true, true_and, Bool.false_eq_true, reduceCtorEq]
theorem b_it (s : Sh h) (J : Nat → Nat → Int32) : iter (fun z : Int32 × Hp => F_X12_back_l16 59 z.1 z.2) FU ((0 : Int32), wI h J) = some (wI h (cpT J 61 60 4232)) := by
  refine iter_at (fun j => (nI j, wI h (cpT J 61 60 j))) 4232 (wI h (cpT J 61 60 4232)) (by rw [cpT_0]; rfl) (fun j hj => b_l16 s J hj) ?_ (FU_lt (by omega))
  show F_X12_back_l16 59 (nI 4232) _ = _
  unfold F_X12_back_l16
  rw [nl_4232, if_pos (nI_le (Nat.le_refl _) (by omega))]
theorem x_cpH0 (sa : HS h A) (sb : HS h B) (d : A + 33 ≤ B ∨ B + 33 ≤ A) : ∃ J2, F_X2_copyFrom A B h = some ((), wI h J2) ∧ cpS (zI h) A B LH J2 := x_cpH sa sb d (zI h)
/-- the house K is there: all of the image -/
theorem img {Q n K : Nat} (s : Sh h) (i : Inv (zI h 60)) (c : HR (zI h) 3 (zI h 60)) (t : TP (zI h)) (p : Pt h A Q n) (r : zR h 0 9 = some K) (hs : HS h K) (h73 : 73 ≤ K) (hN : K + 33 ≤ zN h) (hA : A < K ∨ K + 33 ≤ A) (hQ : Q < K ∨ K + 33 ≤ Q) : ∃ J1 J2, F_X11_image_b18 0 h = some ((), wI h J1, 0, 0) ∧ F_X12_image 59 (wI h J1) = some ((), wI h J2) ∧ GS (wI h J2) := by
  obtain ⟨J1, e1, e2⟩ := x_cpH0 hs (HS_3 s) (Or.inr (by omega))
  refine ⟨J1, _, ?_, m_image s J1, ?_⟩
  · unfold F_X11_image_b18
    rw [gd_d (k0 s), r, ob_s, r0_1 s, ob_s, e1, ob2_s, gd_d hs.1]
  · have lo : ∀ a, a < 73 → J1 a = zI h a := fun a ha => cpS_out e2 (Or.inl (by omega))
    have o1 : ∀ a, a ≠ 59 → a ≠ 61 → up2 (cpT (up2 J1 59 0 0) 60 61 4232) 59 4 1 a = J1 a := fun a h1 h2 => by
      funext k
      rw [up2_a _ _ _ _ _ h1, cpT_a _ _ h2, up2_a _ _ _ _ _ h1]
    have o61 : ∀ k, k < 4232 → up2 (cpT (up2 J1 59 0 0) 60 61 4232) 59 4 1 61 k = zI h 60 k := fun k hk => by
      rw [up2_a _ _ _ _ _ (by decide), cpT_b, if_pos hk, up2_a _ _ _ _ _ (by decide), lo 60 (by decide)]
    have o60 : up2 (cpT (up2 J1 59 0 0) 60 61 4232) 59 4 1 60 = zI h 60 := by rw [o1 60 (by decide) (by decide), lo 60 (by decide)]
    have o59 : ∀ k, k ≠ 0 → k ≠ 4 → up2 (cpT (up2 J1 59 0 0) 60 61 4232) 59 4 1 59 k = zI h 59 k := fun k h0 h4 => by
      rw [up2_k _ _ _ _ _ h4, cpT_a _ _ (by decide), up2_k _ _ _ _ _ h0, lo 59 (by decide)]
    have o4 : up2 (cpT (up2 J1 59 0 0) 60 61 4232) 59 4 1 59 4 = 1 := up2_e _ _ _ _
    generalize up2 (cpT (up2 J1 59 0 0) 60 61 4232) 59 4 1 = J2 at o1 o61 o60 o59 o4
    have lo2 : ∀ a, a < 73 → a ≠ 59 → a ≠ 61 → J2 a = zI h a := fun a ha h1 h2 => by rw [o1 a h1 h2, lo a ha]
    refine ⟨Sh_w s J2, ?_, ?_, ?_, A, Q, n, p, Or.inr ⟨K, r, hs, h73, hN, hA, hQ, o4, ?_, ?_⟩⟩
    · show Inv (J2 60)
      rw [o60]
      exact i
    · show HR J2 3 (J2 60)
      rw [o60]
      exact HR_congr (f := zI h 60) (fun a ha => lo2 _ (by omega) (by omega) (by omega)) (fun g hg => ⟨lo2 _ (by omega) (by omega) (by omega), lo2 _ (by omega) (by omega) (by omega)⟩) (fun _ _ => rfl) i c
    · show TP J2
      unfold TP at t ⊢
      rw [lo2 2 (by decide) (by decide) (by decide), lo2 63 (by decide) (by decide) (by decide), lo2 1 (by decide) (by decide) (by decide), o59 6 (by decide) (by decide), o59 11 (by decide) (by decide)]
      exact t
    · show HR J2 K (J2 61)
      have q := HR_cp e2 i c
      exact HR_congr (f := zI h 60) (I := J1) (fun a ha => o1 _ (by omega) (by omega)) (fun g hg => ⟨o1 _ (by omega) (by omega), o1 _ (by omega) (by omega)⟩) o61 i q
    · exact Inv_congr o61 i
/-- the image, on both sides -/
def JI (h : Hp) : Prop := ∃ h1 c s h2, F_X11_image 0 h = some ((), h1, c, s) ∧ F_X12_image 59 h1 = some ((), h2) ∧ kd h1 59 = 11 ∧ GS h2 ∧ c + potC h2 ≤ potC h ∧ s + potS h2 ≤ potS h
theorem j_image (g : GS h) : JI h := by
  obtain ⟨s, i, c, t, A, Q, n, p, im⟩ := g
  have h73 : 73 ≤ zN h := s.1
  rcases im with ⟨m1, m2⟩ | ⟨K, m1, m2, m3, m4, m5, m6, m7, m8, m9⟩
  · obtain ⟨h2, x1, x2, x3, x4⟩ := x_house h
    have hA : A < zN h := p.2.2.2.2.2.2.2.2.1
    have hQ : Q < zN h := p.2.2.2.2.2.2.2.2.2.1
    have lo : ∀ a, a < zN h → zI h2 a = zI h a := fun a ha => (x4 a ha).2.2.2
    have rr : ∀ a k, (a ≠ 0 ∨ k ≠ 9) → zR (setR h2 0 9 (some (zN h))) a k = zR h2 a k := fun a k hq => by
      rw [zR_setR]
      by_cases e : a = 0
      · rw [if_pos e, if_neg (by omega)]
      · rw [if_neg e]
    have r9 : zR (setR h2 0 9 (some (zN h))) 0 9 = some (zN h) := by rw [zR_setR, if_pos rfl, if_pos rfl]
    have s3 : Sh (setR h2 0 9 (some (zN h))) := Sh_ext s (fun a ha => (x4 a (by omega)).1) (fun a ha => (x4 a (by omega)).2.1) (fun a k ha _ h9 => by rw [rr a k h9, (x4 a (by omega)).2.2.1]) (by show 73 ≤ zN h2; omega)
    have hs3 : HS (setR h2 0 9 (some (zN h))) (zN h) := HS_ext x2 (fun _ _ _ => rfl) (fun _ _ _ => rfl) (fun a k h1 _ => rr a k (Or.inl (by omega)))
    obtain ⟨p1, p2, p3, p4, p5, p6, p7, p8, p9, p10, p11⟩ := p
    have e50 : ∀ k, zR (setR h2 0 9 (some (zN h))) 50 k = zR h 50 k := fun k => by rw [rr 50 k (Or.inl (by decide)), (x4 50 (by omega)).2.2.1]
    have p3' : Pt (setR h2 0 9 (some (zN h))) A Q n := ⟨by rw [e50]; exact p1, by rw [e50]; exact p2, by rw [kd_setR, (x4 A hA).1]; exact p3, by rw [kd_setR, (x4 Q hQ).1]; exact p4, by rw [zl_setR, (x4 A hA).2.1]; exact p5, by rw [zl_setR, (x4 Q hQ).2.1]; exact p6, p7, p8, by show A < zN h2; omega, by show Q < zN h2; omega, p11⟩
    have c3 : HR (zI h2) 3 (zI h2 60) := by
      rw [lo 60 (by omega)]
      exact HR_congr (f := zI h 60) (fun a ha => lo _ (by omega)) (fun g hg => ⟨lo _ (by omega), lo _ (by omega)⟩) (fun _ _ => rfl) i c
    have t3 : TP (zI h2) := by
      unfold TP at t ⊢
      rw [lo 2 (by omega), lo 63 (by omega), lo 1 (by omega), lo 59 (by omega)]
      exact t
    obtain ⟨J1, J2, y1, y2, y3⟩ := img s3 (by show Inv (zI h2 60); rw [lo 60 (by omega)]; exact i) c3 t3 p3' r9 hs3 h73 (by show zN h + 33 ≤ zN h2; omega) (Or.inl hA) (Or.inl hQ)
    refine ⟨_, 33, 2349, _, ?_, y2, k59 s3, y3, ?_, ?_⟩
    · unfold F_X11_image F_X11_image_b0
      rw [gd_d (k0 s), nz_n m1, ob_s, x1, ob4_s, (x4 0 (by omega)).1, gd_d (k0 s), y1, ac_s, ac_s]
    · show 33 + (2 * (32768 - farL (setR h2 0 9 (some (zN h)))) + 33 * keptN (setR h2 0 9 (some (zN h)))) ≤ 2 * (32768 - farL h) + 33 * keptN h
      have f1 : farL (setR h2 0 9 (some (zN h))) = farL h := by
        unfold farL
        rw [e50, p1]
        show zl h2 A = zl h A
        rw [(x4 A hA).2.1]
      have f2 : keptN (setR h2 0 9 (some (zN h))) = 0 := by unfold keptN; rw [r9]
      have f3 : keptN h = 1 := by unfold keptN; rw [m1]
      rw [f1, f2, f3]
      omega
    · show 2349 + (4 * (32768 - farL (setR h2 0 9 (some (zN h)))) + 5000 * keptN (setR h2 0 9 (some (zN h)))) ≤ 4 * (32768 - farL h) + 5000 * keptN h
      have f1 : farL (setR h2 0 9 (some (zN h))) = farL h := by
        unfold farL
        rw [e50, p1]
        show zl h2 A = zl h A
        rw [(x4 A hA).2.1]
      have f2 : keptN (setR h2 0 9 (some (zN h))) = 0 := by unfold keptN; rw [r9]
      have f3 : keptN h = 1 := by unfold keptN; rw [m1]
      rw [f1, f2, f3]
      omega
  · obtain ⟨J1, J2, y1, y2, y3⟩ := img s i c t p m1 m2 m3 m4 m5 m6
    refine ⟨_, 0, 0, _, ?_, y2, k59 s, y3, ?_, ?_⟩
    · unfold F_X11_image F_X11_image_b0
      rw [gd_d (k0 s), nz_s m1, y1]
    · show 0 + potC h ≤ _
      omega
    · show 0 + potS h ≤ _
      omega
theorem j_back (g : GS h) : JA h (F_X11_back 0) (F_X12_back 59) := by
  have g0 := g
  obtain ⟨s, i, c, t, A, Q, n, p, im⟩ := g
  have h73 : 73 ≤ zN h := s.1
  rcases im with ⟨m1, m2⟩ | ⟨K, m1, m2, m3, m4, m5, m6, m7, m8, m9⟩
  · refine ⟨0, h, setI h 59 0 0, ?_, ?_, k59 s, ?_, Nat.le_refl _, Nat.le_refl _⟩
    · unfold F_X11_back F_X11_back_b0
      rw [gd_d (k0 s), nz_n m1]
    · unfold F_X12_back F_X12_back_b0
      rw [gd_d (k59 s), if_pos]
      show up2 (zI h) 59 0 0 59 4 = 0
      rw [up2_k _ _ _ _ _ (by decide)]
      exact m2
    · exact GS_t0 g0
  · obtain ⟨J1, e1, e2⟩ := x_cpH0 (HS_3 s) m2 (Or.inl (by omega))
    have lo : ∀ a, a < 3 ∨ 36 ≤ a → J1 a = zI h a := fun a ha => cpS_out e2 (by omega)
    refine ⟨1, wI h J1, wI h (cpT (up2 J1 59 0 0) 61 60 4232), ?_, ?_, k59 s, ?_, Nat.le_refl _, Nat.le_refl _⟩
    · unfold F_X11_back F_X11_back_b0
      rw [gd_d (k0 s), nz_s m1, r0_1 s, ob_s, m1, ob_s, e1, ob2_s, gd_d (k3 s)]
    · unfold F_X12_back F_X12_back_b0
      rw [wI_k, gd_d (k59 s), sI_w, if_neg, b_it s, ob_s]
      show ¬ up2 J1 59 0 0 59 4 = 0
      rw [up2_k _ _ _ _ _ (by decide), lo 59 (by omega), m7]
      decide
    · have o1 : ∀ a, a ≠ 59 → a ≠ 60 → cpT (up2 J1 59 0 0) 61 60 4232 a = J1 a := fun a h1 h2 => by
        funext k
        rw [cpT_a _ _ h2, up2_a _ _ _ _ _ h1]
      have o60 : ∀ k, k < 4232 → cpT (up2 J1 59 0 0) 61 60 4232 60 k = zI h 61 k := fun k hk => by
        rw [cpT_b, if_pos hk, up2_a _ _ _ _ _ (by decide), lo 61 (by omega)]
      have o59 : ∀ k, k ≠ 0 → cpT (up2 J1 59 0 0) 61 60 4232 59 k = zI h 59 k := fun k h0 => by
        rw [cpT_a _ _ (by decide), up2_k _ _ _ _ _ h0, lo 59 (by omega)]
      generalize cpT (up2 J1 59 0 0) 61 60 4232 = J2 at o1 o60 o59
      refine GS_c g0 (Inv_congr o60 m9) ?_ ?_ ?_
      · exact HR_congr (f := zI h 61) (I := J1) (fun a ha => o1 _ (by omega) (by omega)) (fun g hg => ⟨o1 _ (by omega) (by omega), o1 _ (by omega) (by omega)⟩) o60 m9 (HR_cp e2 m9 m8)
      · unfold TP at t ⊢
        rw [o1 2 (by decide) (by decide), o1 63 (by decide) (by decide), o1 1 (by decide) (by decide), o59 6 (by decide), o59 11 (by decide), lo 2 (by omega), lo 63 (by omega), lo 1 (by omega)]
        exact t
      · intro a k ha _ _
        rcases ha with rfl | ha | ⟨rfl, rfl⟩
        · rw [o1 61 (by decide) (by decide), lo 61 (by omega)]
        · rw [o1 a (by omega) (by omega), lo a (by omega)]
        · exact o59 4 (by decide)
end IMAGE
