/-! THE CALL wake: the class -/
section WAKE2
variable {h : Hp} {f : Nat → Int32}
theorem wK_seat (i : Inv f) {q : Nat} {D S H : Nat → Int32} {sf : Nat → Nat} (w : wP f q D S H (nG f) sf) : seated (wK h D S H) 46 (nG f) sf := fun g hg => by
  have := (w.1.1 g hg).1
  have := iR8 i
  rw [wK_46]
  exact ⟨w.1.2.1 g hg, by omega⟩
theorem x_notAt (s : Sh h) (i : Inv f) (c : HR (zI h) 3 f) {Q : Nat} (hk : kd h Q = 13) (hl : zl h Q = 5) {sf : Nat → Nat} (hs : seated h Q (nG f) sf) : F_X2_notAt 3 Q h = some (nI (nwS f sf (nG f))) := by
  have g5 := iG5 i
  have r8 := iR8 i
  unfold F_X2_notAt F_X2_notAt_b0
  refine ob_p (iter_run (fun j => (nI (nwS f sf j), nI j)) (nG f) _ (fun j hj => ?_) ?_ (FU_lt (by omega))) _
  · show F_X2_notAt_l4 3 Q (nI (nwS f sf j)) (nI j) h = some (.inl (nI (nwS f sf j + (if !decide (sf j = sit f j) then 1 else 0)), nI (j + 1)))
    obtain ⟨h1, h2⟩ := hs j hj
    obtain ⟨-, e2, e3⟩ := igs i j hj
    unfold F_X2_notAt_l4 F_X2_notAt_b27
    rw [gd_d (k3 s), c.1.2.1, iG i, if_neg (nI_ge hj (by omega)), gd_d hk, hl, ix_t (by omega) (by omega), gd_t, r3_7 s, ob_s, gd_d (k9 s), l9 s, ix_t (by omega) (by omega), gd_t, ncl (by omega), h1, (c.2.2.1 j (by omega)).2, e2, nI_1, nI_1]
    by_cases p : sf j = sit f j
    · rw [if_pos (by rw [p]), decide_eq_true p]
      rfl
    · rw [if_neg (fun z => p ((nI_eq (by omega) (by omega)).mp z)), decide_eq_false p]
      rfl
  · show F_X2_notAt_l4 3 Q _ (nI (nG f)) h = _
    unfold F_X2_notAt_l4
    rw [gd_d (k3 s), c.1.2.1, ← iG i, if_pos (Int32.le_refl _)]
theorem lI_v {y : Nat} (hv : vI f y = false) : lI f y = false := by
  unfold lI
  rw [hv]
  rfl
theorem x_wakeL (s' : Sh h) (i : Inv f) (c : HR (zI h) 3 f) (v : Int32) {D S H : Nat → Int32} (w : wA f (sR f) D S H 0) : ∃ D' S' H', iter (fun z : Int32 × Int32 × Int32 × Hp => F_X11_wake_l25 0 v z.1 z.2.1 z.2.2.1 z.2.2.2) FU (-1, -1, 0, wK h D S H) = some ((wkC f (wkB f (8 ^ nG f))).1, (wkC f (wkB f (8 ^ nG f))).2, wK h D' S' H') := by
  have g5 := iG5 i
  have p8 := pow8 g5
  have sK : ∀ D S H, Sh (wK h D S H) := fun _ _ _ => s'
  have key := walk_loop (f := f) i (body := fun z : Int32 × Int32 × Int32 × Hp => F_X11_wake_l25 0 v z.1 z.2.1 z.2.2.1 z.2.2.2) (fun (a : Option Nat) j D S H => ((wkC f a).1, (wkC f a).2, nI j, wK h D S H)) (sR f) (fun P a => a = wkB f P) (fun x => ∃ D' S' H', x = ((wkC f (wkB f (8 ^ nG f))).1, (wkC f (wkB f (8 ^ nG f))).2, wK h D' S' H')) (fun a j D S H P hI hw hk2 hj => ?_) (fun a D S H hI => ?_) (a0 := none) rfl w
  · obtain ⟨x, hx, D', S', H', hE⟩ := key
    refine ⟨D', S', H', ?_⟩
    rw [← hE]
    exact hx
  · have skip : ∀ j (a : Option Nat), vI f j = false → a = wkB f j → a = wkB f (j + 1) := fun j a hv ha => by
      rw [wkB_s, lI_v hv, ha, if_neg (by decide)]
    rcases x_adv s' i c hw with ⟨y, D1, S1, H1, y1, y2, y3, y4, y5, y6, y7, y8⟩ | ⟨D1, S1, H1, y1, y2⟩
    · left
      have ha : a = wkB f y := skipV (I := fun P a => a = wkB f P) skip hI y1 y3
      obtain ⟨n0, n1⟩ := wP_net y8
      have cK : HR (zI (wK h D1 S1 H1)) 3 f := wK_c i c
      have se := wK_seat (h := h) i y8
      have eno : F_X2_notAt 3 46 (wK h D1 S1 H1) = some (nI (nwI f y)) := x_notAt (sK _ _ _) i cK (k46 s') (l46 s') se
      have eas : F_X2_asNumber 3 46 (wK h D1 S1 H1) = some (nI (numS (dg (nG f) y) (nG f))) := x_asNumber (sK _ _ _) i cK (k46 s') (l46 s') se
      have nl := nwI_le (f := f) y
      have e84 : ∀ w5 : Int32, F_X11_wake_b84 0 v (nI j) w5 (wK h D1 S1 H1) = some (.inl (w5, nI (numS (dg (nG f) y) (nG f)), nI (j + 1), wK h D1 S1 H1)) := fun w5 => by
        unfold F_X11_wake_b84 F_X11_wake_b102
        rw [wK_k, gd_d (k0 s'), wK_r, r0_1 s', ob_s, r0_5 s', ob_s, wK_k, gd_d (k45 s'), r45_0 s', ob_s, eas, ob_s, wK_k, gd_d (k3 s'), nI_1]
      have el : lI f y = levS f (nq f (sR f) 0 (dg (nG f) y)) (nq f (sR f) 1 (dg (nG f) y)) (tin f) := by
        unfold lI
        rw [y4]
        rfl
      have eb : F_X11_wake_l25 0 v (wkC f a).1 (wkC f a).2 (nI j) (wK h D S H) = some (.inl ((wkC f (wkB f (y + 1))).1, (wkC f (wkB f (y + 1))).2, nI (j + 1), wK h D1 S1 H1)) := by
        unfold F_X11_wake_l25
        rw [nl_32768, if_neg (nI_ge hj (by omega)), wK_k, gd_d (k0 s'), wK_r, r0_5 s', ob_s, r0_1 s', ob_s, y5, ob2_s, wK_k, gd_d (k45 s'), if_neg (by decide), wK_k, gd_d (k0 s'), wK_r, r0_5 s', ob_s, x_isLevelNow s' y7, ob_s, wK_k, gd_d (k45 s'), n0, n1, ← el, r0_1 s', ob_s, ob_s, wK_k, gd_d (k45 s'), r45_0 s', ob_s, eno, ob_s, wK_k, gd_d (k3 s'), e84, wkB_s, ha]
        unfold F_X11_wake_b102
        cases l : lI f y with
        | false =>
          rw [b2_f, if_pos rfl, nI_1, if_neg (by decide)]
        | true =>
          rw [b2_t, if_neg (by decide), if_pos rfl]
          cases wkB f y with
          | none => rfl
          | some b =>
            have nb := nwI_le (f := f) b
            show (if nI (nwI f b) = -1 then _ else if nI (nwI f b) ≤ nI (nwI f y) then _ else _) = _
            rw [if_neg (neg1_nI (by omega)), nI_1]
            dsimp only
            by_cases p : nwI f y < nwI f b
            · rw [if_neg (nI_ge p (by omega)), if_pos p]
              rfl
            · rw [if_pos (nI_le (by omega) (by omega)), if_neg p]
      exact ⟨y, wkB f (y + 1), D1, S1, H1, y1, y2, eb, y6, rfl⟩
    · right
      have ha : a = wkB f (8 ^ nG f) := skipV (I := fun P a => a = wkB f P) skip hI (wA_le hw) y1
      refine ⟨((wkC f a).1, (wkC f a).2, wK h D1 S1 H1), ?_, D1, S1, H1, by rw [ha]⟩
      show F_X11_wake_l25 0 v (wkC f a).1 (wkC f a).2 (nI j) (wK h D S H) = _
      unfold F_X11_wake_l25
      rw [nl_32768, if_neg (nI_ge hj (by omega)), wK_k, gd_d (k0 s'), wK_r, r0_5 s', ob_s, r0_1 s', ob_s, y2, ob2_s, wK_k, gd_d (k45 s'), if_pos rfl]
  · refine ⟨((wkC f a).1, (wkC f a).2, wK h D S H), ?_, D, S, H, by rw [hI]⟩
    show F_X11_wake_l25 0 v _ _ (nI 32768) (wK h D S H) = _
    unfold F_X11_wake_l25
    rw [nl_32768, if_pos (Int32.le_refl _)]
theorem x_wake (s : Sh h) (i : Inv f) (c : HR (zI h) 3 f) (v : Int32) : ∃ D S H, F_X11_wake 0 v h = some (wkA f v (wkB f (8 ^ nG f)), wK h D S H) := by
  obtain ⟨D, S, H, st, w⟩ := x_start s i c (e_sR i c).2
  obtain ⟨D1, S1, H1, lp⟩ := x_wakeL s i c v w
  refine ⟨D1, S1, H1, ?_⟩
  unfold F_X11_wake F_X11_wake_b0
  rw [gd_d (k0 s), r0_5 s, ob_s, r0_1 s, ob_s, ob_s, gd_d (k3 s), (e_sR i c).1, st, ob2_s, gd_d (k45 s), lp, ob_s]
  show F_X11_wake_b108 v (wkC f (wkB f (8 ^ nG f))).1 (wkC f (wkB f (8 ^ nG f))).2 (wK h D1 S1 H1) = _
  unfold F_X11_wake_b108 F_X11_wake_b117
  cases wkB f (8 ^ nG f) with
  | none =>
    by_cases p : v = 0
    · rw [if_pos p]
      rfl
    · rw [if_neg p]
      rfl
  | some b =>
    unfold wkA
    dsimp only
    by_cases p : v = 0
    · rw [if_pos p, if_pos p]
      rfl
    · rw [if_neg p, if_neg p]
      rfl
theorem j_wake (g : GS h) (v : Int32) : JA h (F_X11_wake 0 v) (F_X12_wake 59 v) := by
  obtain ⟨s, i, c, -⟩ := id g
  obtain ⟨D, S, H, e⟩ := x_wake s i c v
  obtain ⟨J, n, em⟩ := m_wake (h := wK h D S H) (f := zI h 60) s (wK_o (by omega)) i v
  have gs : GS (wI h J) := GS_w g (fun a k h1 h2 h3 h4 => (n a k h1).trans (wK_q a k h1 h2 h3 h4))
  exact ⟨_, _, _, e, em, k59 s, gs, Nat.le_refl _, Nat.le_refl _⟩
end WAKE2
