/-! THE CALL seats: the class -/
def cmp (p : Nat → Bool) : Nat → Nat
  | 0 => 0
  | n + 1 => cmp p n + (if p n then 2 ^ n else 0)
theorem cmp_s (p : Nat → Bool) (n : Nat) : cmp p (n + 1) = cmp p n + (if p n then 2 ^ n else 0) := rfl
theorem cmp_lt (p : Nat → Bool) : ∀ n, cmp p n < 2 ^ n
  | 0 => by
    show (0 : Nat) < 2 ^ 0
    decide
  | n + 1 => by
    have := cmp_lt p n
    rw [cmp_s, Nat.pow_succ]
    cases p n
    · rw [if_neg (by decide)]
      omega
    · rw [if_pos rfl]
      omega
theorem cmp_inj {p q : Nat → Bool} : ∀ {n : Nat}, cmp p n = cmp q n → ∀ k, k < n → p k = q k
  | 0, _, k, hk => absurd hk (by omega)
  | n + 1, e, k, hk => by
    have h1 := cmp_lt p n
    have h2 := cmp_lt q n
    rw [cmp_s, cmp_s] at e
    have hp : p n = q n ∧ cmp p n = cmp q n := by
      cases a : p n <;> cases b : q n <;> simp only [a, b, if_true, if_false, Bool.false_eq_true] at e
      · exact ⟨rfl, by omega⟩
      · omega
      · omega
      · exact ⟨rfl, by omega⟩
    by_cases e2 : k = n
    · subst e2
      exact hp.1
    · exact cmp_inj hp.2 k (by omega)
theorem shl1 {j : Nat} (hj : j < 5) : (1 : Int32) <<< (nI j &&& 31) = nI (2 ^ j) := by
  have : j = 0 ∨ j = 1 ∨ j = 2 ∨ j = 3 ∨ j = 4 := by omega
  rcases this with rfl | rfl | rfl | rfl | rfl <;> decide
theorem pow5 {n : Nat} (h : n ≤ 5) : 2 ^ n ≤ 32 := by
  have : 2 ^ n ≤ 2 ^ 5 := Nat.pow_le_pow_right (by omega) h
  omega
section SEATS2
variable {h : Hp} {f : Nat → Int32}
def inR (s : Nat → Nat) (r k : Nat) : Bool := decide (s k = r)
def idx (f : Nat → Int32) (s : Nat → Nat) (g : Nat) : Nat := (g * 8 + s g) * 32 + cmp (inR s (s g)) (nG f)
theorem faS_cg {s t : Nat → Nat} {g : Nat} (e : s g = t g) (e2 : ∀ k, k < nG f → inR s (s g) k = inR t (t g) k) (k n : Int32) : faS f s g k n = faS f t g k n := by
  have eh : hdS s (nG f) (s g) = hdS t (nG f) (t g) := fb_ct_cong (fun k hk => e2 k hk)
  have ei : (isIn n (nG f) && decide (s n.toNatClampNeg = s g)) = (isIn n (nG f) && decide (t n.toNatClampNeg = t g)) := by
    cases q : isIn n (nG f) with
    | false => rfl
    | true =>
      unfold isIn at q
      rw [Bool.and_eq_true] at q
      have h2 : n.toNatClampNeg < nG f := of_decide_eq_true q.2
      have := e2 _ h2
      unfold inR at this
      rw [this]
  unfold faS
  rw [eh, ei, e]
theorem evR_cg {fa fb : Int32 → Int32 → Int32} (e : ∀ k n, fa k n = fb k n) (m : Nat → Int32) (i n : Nat) (st : List Int32) : evR fa m i n st = evR fb m i n st := by
  have : fa = fb := by
    funext k n
    exact e k n
  rw [this]
theorem metF_cg {s t : Nat → Nat} {g : Nat} (e : s g = t g) (e2 : ∀ k, k < nG f → inR s (s g) k = inR t (t g) k) : metF f s g = metF f t g := by
  have : faS f s g = faS f t g := by
    funext k n
    exact faS_cg e e2 k n
  unfold metF
  rw [this]
theorem idx_inj (i : Inv f) {s t : Nat → Nat} {g g2 : Nat} (h1 : s g < 8) (h2 : t g2 < 8) (e : idx f s g = idx f t g2) : g = g2 ∧ s g = t g2 ∧ ∀ k, k < nG f → inR s (s g) k = inR t (t g2) k := by
  have p5 := pow5 (iG5 i)
  have c1 := cmp_lt (inR s (s g)) (nG f)
  have c2 := cmp_lt (inR t (t g2)) (nG f)
  unfold idx at e
  exact ⟨by omega, by omega, cmp_inj (by omega)⟩
/-- what is known is right -/
def knO (f K : Nat → Int32) : Prop := ∀ g s, g < nG f → (∀ k, k < nG f → s k < 8) → K (idx f s g) = -1 ∨ K (idx f s g) = metF f s g
def snO (h : Hp) (f : Nat → Int32) (J : Nat → Nat → Int32) : Prop := (∀ a, ¬ (a = 23 ∨ a = 26 ∨ a = 29 ∨ a = 32 ∨ a = 35 ∨ a = 48 ∨ a = 49) → J a = zI h a) ∧ knO f (J 49)
theorem wK_I {J : Nat → Nat → Int32} {D S H : Nat → Int32} {a : Nat} (q : a < 45 ∨ 47 < a) : zI (wK (wI h J) D S H) a = J a := wK_o q
theorem wK_so {J : Nat → Nat → Int32} {D S H : Nat → Int32} {a k : Nat} {v : Int32} (q : a < 45 ∨ 47 < a) : setI (wK (wI h J) D S H) a k v = wK (wI h (up2 J a k v)) D S H := by
  rw [setI_w]
  show wI (wI h (up2 J a k v)) _ = _
  refine wK_e (fun b => ?_)
  by_cases e : b = a
  · subst e
    rw [up2_v1, wK_I q, if_neg (by omega), if_neg (by omega), if_neg (by omega), wI_I, up2_v1]
  · rw [up2_a _ _ _ _ _ e, wK_at, wI_I, wI_I, up2_a _ _ _ _ _ e]
theorem wK_st {J : Nat → Nat → Int32} {D S H : Nat → Int32} {a : Nat} {M : Nat → Int32} (q : a < 45 ∨ 47 < a) : stH (wK (wI h J) D S H) a M = wK (wI h (va_up J a M)) D S H := by
  unfold stH
  show wI (wI h (va_up J a M)) _ = _
  refine wK_e (fun b => ?_)
  by_cases e : b = a
  · subst e
    rw [va_e, if_neg (by omega), if_neg (by omega), if_neg (by omega), wI_I, va_e]
  · rw [va_n _ _ _ _ e, wK_at, wI_I, wI_I, va_n _ _ _ _ e]
theorem snO_c (i : Inv f) (c : HR (zI h) 3 f) {J : Nat → Nat → Int32} (o : snO h f J) {D S H : Nat → Int32} : HR (zI (wK (wI h J) D S H)) 3 f := HR_congr (f := f) (fun a ha => by rw [wK_I (by omega), o.1 _ (by omega)]) (fun g hg => ⟨by rw [wK_I (by omega), o.1 _ (by omega)], by rw [wK_I (by omega), o.1 _ (by omega)]⟩) (fun _ _ => rfl) i c
theorem k48 (s : Sh h) : kd h 48 = 5 := by unfold Sh at s; simp only [s]
theorem r48_0 (s : Sh h) : zR h 48 0 = some 49 := by unfold Sh at s; simp only [s]
theorem k49 (s : Sh h) : kd h 49 = 13 := by unfold Sh at s; simp only [s]
theorem l49 (s : Sh h) : zl h 49 = 1280 := by unfold Sh at s; simp only [s]
theorem r0_6 (s : Sh h) : zR h 0 6 = some 48 := by unfold Sh at s; simp only [s]
theorem x_comp (s : Sh h) (i : Inv f) (c : HR (zI h) 3 f) {Q : Nat} (hk : kd h Q = 13) (hl : zl h Q = 5) {sf : Nat → Nat} (hs : seated h Q (nG f) sf) {r : Nat} (hr : r < 8) (v0 : Nat) (v1 : Int32) : iter (fun z : Int32 × Int32 => F_X5_metBy_l11 v0 v1 3 Q (nI r) z.1 z.2 h) FU (0, 0) = some (nI (cmp (inR sf r) (nG f))) := by
  have g5 := iG5 i
  refine iter_run (fun j => (nI (cmp (inR sf r) j), nI j)) (nG f) _ (fun j hj => ?_) ?_ (FU_lt (by omega))
  · show F_X5_metBy_l11 v0 v1 3 Q (nI r) (nI (cmp (inR sf r) j)) (nI j) h = some (.inl (nI (cmp (inR sf r) j + (if decide (sf j = r) then 2 ^ j else 0)), nI (j + 1)))
    obtain ⟨h1, h2⟩ := hs j hj
    unfold F_X5_metBy_l11 F_X5_metBy_b38
    rw [gd_d (k3 s), c.1.2.1, iG i, if_neg (nI_ge hj (by omega)), gd_d hk, hl, ix_t (by omega) (by omega), gd_t, ncl (by omega), h1, shl1 (by omega), nadd, nI_1]
    by_cases p : sf j = r
    · rw [if_pos (by rw [p]), decide_eq_true p]
      rfl
    · rw [if_neg (fun z => p ((nI_eq (by omega) (by omega)).mp z)), decide_eq_false p]
      rfl
  · show F_X5_metBy_l11 v0 v1 3 Q (nI r) _ (nI (nG f)) h = _
    unfold F_X5_metBy_l11
    rw [gd_d (k3 s), c.1.2.1, ← iG i, if_pos (Int32.le_refl _)]
theorem x_metBy (s : Sh h) (i : Inv f) (c : HR (zI h) 3 f) {J : Nat → Nat → Int32} (o : snO h f J) {q : Nat} {D S H : Nat → Int32} {sf : Nat → Nat} (w : wP f q D S H (nG f) sf) {g : Nat} (hg : g < nG f) : ∃ J', F_X5_metBy 48 (nI g) 3 46 (wK (wI h J) D S H) = some (metF f sf g, wK (wI h J') D S H) ∧ snO h f J' ∧ J' 48 = J 48 := by
  have g5 := iG5 i
  have r8 := iR8 i
  have p5 := pow5 g5
  have sK : ∀ J D S H, Sh (wK (wI h J) D S H) := fun _ _ _ _ => s
  have cK := snO_c (D := D) (S := S) (H := H) i c o
  have se : seated (wK (wI h J) D S H) 46 (nG f) sf := wK_seat i w
  have h8 : ∀ k, k < nG f → sf k < 8 := fun k hk => (se k hk).2
  have hr := h8 g hg
  have cl := cmp_lt (inR sf (sf g)) (nG f)
  have hi : idx f sf g < 1280 := by
    unfold idx
    omega
  have eidx : (((nI g * (8 : Int32)) + nI (sf g)) * (32 : Int32)) + nI (cmp (inR sf (sf g)) (nG f)) = nI (idx f sf g) := by
    rw [nl_8, nl_32, nmul, nadd, nmul, nadd]
    rfl
  have e89 : ∀ J', F_X5_metBy_b89 48 (nI (idx f sf g)) (wK (wI h J') D S H) = some (J' 49 (idx f sf g), wK (wI h J') D S H) := fun J' => by
    unfold F_X5_metBy_b89
    rw [gd_d (k48 (sK _ _ _ _)), r48_0 (sK _ _ _ _), ob_s, gd_d (k49 (sK _ _ _ _)), l49 (sK _ _ _ _), ix_t hi (by omega), gd_t, ncl (by omega), wK_I (by omega)]
  unfold F_X5_metBy F_X5_metBy_b0
  rw [gd_d (k46 (sK _ _ _ _)), l46 (sK _ _ _ _), ix_t (by omega) (by omega), gd_t, ncl (by omega), (se g hg).1, x_comp (sK _ _ _ _) i cK (k46 (sK _ _ _ _)) (l46 (sK _ _ _ _)) se hr, ob_s, gd_d (k48 (sK _ _ _ _)), r48_0 (sK _ _ _ _), ob_s, gd_d (k49 (sK _ _ _ _)), l49 (sK _ _ _ _), eidx, ix_t hi (by omega), gd_t, ncl (by omega), wK_I (a := 49) (by omega), e89]
  by_cases p : J 49 (idx f sf g) = -1
  · obtain ⟨M, eh⟩ := x_holding (sK J D S H) i cK (k46 (sK _ _ _ _)) (l46 (sK _ _ _ _)) se hg (by omega)
    rw [wK_st (by omega)] at eh
    refine ⟨up2 (va_up J (23 + 3 * g) M) 49 (idx f sf g) (metF f sf g), ?_, ⟨fun a ha => ?_, ?_⟩, ?_⟩
    · rw [if_pos p, ob_s, gd_d (k3 (sK _ _ _ _)), r3_8 (sK _ _ _ _), ob_s, gd_d (k10 (sK _ _ _ _)), l10 (sK _ _ _ _), ix_t (by omega) (by omega), gd_t, r10_g (sK _ _ _ _) (by omega), ob_s, eh, ob2_s, gd_d (kWg (sK _ _ _ _) (show g < 5 by omega)).1, gd_d (k49 (sK _ _ _ _)), l49 (sK _ _ _ _), ix_t hi (by omega), gd_t, wK_so (by omega), e89, up2_e]
      rfl
    · rw [up2_a _ _ _ _ _ (by omega), va_n _ _ _ _ (by omega)]
      exact o.1 a ha
    · intro g2 s2 hg2 hs2
      have e49 : va_up J (23 + 3 * g) M 49 = J 49 := va_n _ _ _ _ (by omega)
      rw [up2_v1, e49]
      by_cases e : idx f s2 g2 = idx f sf g
      · obtain ⟨e1, e2, e3⟩ := idx_inj i (hs2 g2 hg2) hr e
        subst e1
        rw [e, va_e]
        right
        exact (metF_cg e2 e3).symm
      · rw [va_n _ _ _ _ e]
        exact o.2 g2 s2 hg2 hs2
    · rw [up2_a _ _ _ _ _ (by omega), va_n _ _ _ _ (by omega)]
  · refine ⟨J, ?_, o, rfl⟩
    rw [if_neg p]
    rcases o.2 g sf hg h8 with q | q
    · exact absurd q p
    · rw [q]
theorem x_compare (s : Sh h) (i : Inv f) (c : HR (zI h) 3 f) {J : Nat → Nat → Int32} (o : snO h f J) {q : Nat} {D S H : Nat → Int32} {sf : Nat → Nat} (w : wP f q D S H (nG f) sf) {b : Int32} (hb : J 48 2 = b) : ∃ J', F_X5_compare 48 3 45 (wK (wI h J) D S H) = some ((), wK (wI h J') D S H) ∧ snO h f J' ∧ (∀ k, k ≠ 1 → k ≠ 2 → J' 48 k = J 48 k) ∧ (if metA f sf (nG f) ≤ b then J' 48 1 = J 48 1 ∧ J' 48 2 = b else J' 48 1 = nI (numS sf (nG f)) ∧ J' 48 2 = metA f sf (nG f)) := by
  have g5 := iG5 i
  have sK : ∀ J D S H, Sh (wK (wI h J) D S H) := fun _ _ _ _ => s
  have key := iter_cnt (body := fun z : Int32 × Int32 × Hp => F_X5_compare_l5 48 3 45 z.1 z.2.1 z.2.2) (s0 := (0, 0, wK (wI h J) D S H)) (fun j z => ∃ J1, z = (metA f sf j, nI j, wK (wI h J1) D S H) ∧ snO h f J1 ∧ J1 48 = J 48) (fun x => ∃ J1, x = (metA f sf (nG f), wK (wI h J1) D S H) ∧ snO h f J1 ∧ J1 48 = J 48) (nG f) (fun j z hj hI => ?_) (fun z hI => ?_) ⟨J, rfl, o, rfl⟩ (FU_lt (by omega))
  · obtain ⟨x, hx, J1, hE, o1, e1⟩ := key
    unfold F_X5_compare F_X5_compare_b0
    rw [hx, ob_s, hE]
    unfold un2
    dsimp only
    rw [gd_d (k48 (sK _ _ _ _)), wK_I (by omega), e1, hb]
    unfold F_X5_compare_b59
    by_cases p : metA f sf (nG f) ≤ b
    · refine ⟨J1, if_pos p, o1, fun k _ _ => by rw [e1], ?_⟩
      rw [if_pos p]
      exact ⟨by rw [e1], by rw [e1, hb]⟩
    · have o2 : snO h f (up2 J1 48 2 (metA f sf (nG f))) := ⟨fun a ha => by rw [up2_a _ _ _ _ _ (by omega), o1.1 a ha], by rw [up2_a _ _ _ _ _ (by omega)]; exact o1.2⟩
      refine ⟨up2 (up2 J1 48 2 (metA f sf (nG f))) 48 1 (nI (numS sf (nG f))), ?_, ⟨fun a ha => by rw [up2_a _ _ _ _ _ (by omega), o2.1 a ha], by rw [up2_a _ _ _ _ _ (by omega)]; exact o2.2⟩, fun k h1 h2 => ?_, ?_⟩
      · rw [if_neg p, wK_so (by omega), gd_d (k45 (sK _ _ _ _)), r45_0 (sK _ _ _ _), ob_s, x_asNumber (sK _ _ _ _) i (snO_c i c o2) (k46 (sK _ _ _ _)) (l46 (sK _ _ _ _)) (wK_seat i w), ob_s, gd_d (k3 (sK _ _ _ _)), wK_so (by omega)]
      · rw [up2_k _ _ _ _ _ h1, up2_k _ _ _ _ _ h2, e1]
      · rw [if_neg p]
        exact ⟨up2_e _ _ _ _, by rw [up2_k _ _ _ _ _ (by decide), up2_e]⟩
  · obtain ⟨J1, rfl, o1, e1⟩ := hI
    obtain ⟨J2, em, o2, e2⟩ := x_metBy s i c o1 w hj
    refine ⟨_, ?_, J2, rfl, o2, e2.trans e1⟩
    show F_X5_compare_l5 48 3 45 (metA f sf j) (nI j) (wK (wI h J1) D S H) = _
    have cK := snO_c (D := D) (S := S) (H := H) i c o1
    unfold F_X5_compare_l5
    rw [gd_d (k3 (sK _ _ _ _)), cK.1.2.1, iG i, if_neg (nI_ge hj (by omega)), gd_d (k45 (sK _ _ _ _)), r45_0 (sK _ _ _ _), ob_s, em, ob2_s, gd_d (k48 (sK _ _ _ _)), nI_1]
    rfl
  · obtain ⟨J1, rfl, o1, e1⟩ := hI
    refine ⟨_, ?_, J1, rfl, o1, e1⟩
    show F_X5_compare_l5 48 3 45 (metA f sf (nG f)) (nI (nG f)) (wK (wI h J1) D S H) = _
    have cK := snO_c (D := D) (S := S) (H := H) i c o1
    unfold F_X5_compare_l5
    rw [gd_d (k3 (sK _ _ _ _)), cK.1.2.1, iG i, if_pos (Int32.le_refl _)]
def sfI (h : Hp) (f : Nat → Int32) (P : Nat) (J : Nat → Nat → Int32) : Prop := snO h f J ∧ J 48 1 = (seC f (seB f P)).1 ∧ J 48 2 = (seC f (seB f P)).2 ∧ J 48 3 = nI (fb_ct (lI f) P)
theorem sfI_s (P : Nat) (J : Nat → Nat → Int32) (hv : vI f P = false) (o : sfI h f P J) : sfI h f (P + 1) J := by
  unfold sfI
  rw [seB_s, fb_ct_succ, lI_v hv, if_neg (by decide), if_neg (by decide)]
  exact o
theorem x_findL (s' : Sh h) (e60 : zI h 60 = f) (i : Inv f) (c : HR (zI h) 3 f) (ok : allW f) {J : Nat → Nat → Int32} (o : sfI h f 0 J) {D S H : Nat → Int32} (w : wA f (sR f) D S H 0) : ∃ J' D' S' H', iter (fun z : Int32 × Hp => F_X5_find_l40 48 3 45 (nI (wT f)) z.1 z.2) FU (0, wK (wI h J) D S H) = some (wK (wI h J') D' S' H') ∧ sfI h f (8 ^ nG f) J' := by
  have g5 := iG5 i
  have p8 := pow8 g5
  have w40 := wT_le i ok
  have sJ : ∀ J, Sh (wI h J) := fun _ => s'
  have sK : ∀ J D S H, Sh (wK (wI h J) D S H) := fun _ _ _ _ => s'
  have key := walk_loop (f := f) i (body := fun z : Int32 × Hp => F_X5_find_l40 48 3 45 (nI (wT f)) z.1 z.2) (fun (a : Nat → Nat → Int32) j D S H => (nI j, wK (wI h a) D S H)) (sR f) (fun P a => sfI h f P a) (fun x => ∃ J' D' S' H', x = wK (wI h J') D' S' H' ∧ sfI h f (8 ^ nG f) J') (fun a j D S H P hI hw hk2 hj => ?_) (fun a D S H hI => ?_) (a0 := J) o w
  · obtain ⟨x, hx, J', D', S', H', hE, hF⟩ := key
    exact ⟨J', D', S', H', by rw [← hE]; exact hx, hF⟩
  · have cJ : HR (zI (wI h a)) 3 f := HR_congr (f := f) (fun b hb => hI.1.1 _ (by omega)) (fun g hg => ⟨hI.1.1 _ (by omega), hI.1.1 _ (by omega)⟩) (fun _ _ => rfl) i c
    rcases x_adv (sJ a) i cJ hw with ⟨y, D1, S1, H1, y1, y2, y3, y4, y5, y6, y7, y8⟩ | ⟨D1, S1, H1, y1, y2⟩
    · left
      obtain ⟨ao, a1, a2, a3⟩ : sfI h f y a := skipV (I := fun P a => sfI h f P a) sfI_s hI y1 y3
      obtain ⟨n0, n1⟩ := wP_net y8
      have el : lI f y = levS f (nq f (sR f) 0 (dg (nG f) y)) (nq f (sR f) 1 (dg (nG f) y)) (tin f) := by
        unfold lI
        rw [y4]
        rfl
      have eb : ∃ J2, F_X5_find_l40 48 3 45 (nI (wT f)) (nI j) (wK (wI h a) D S H) = some (.inl (nI (j + 1), wK (wI h J2) D1 S1 H1)) ∧ sfI h f (y + 1) J2 := by
        unfold F_X5_find_l40 F_X5_find_b86
        rw [nl_32768, if_neg (nI_ge hj (by omega)), y5, ob2_s, gd_d (k45 (sK _ _ _ _)), if_neg (by decide), x_isLevelNow (sJ a) y7, ob_s, gd_d (k45 (sK _ _ _ _)), n0, n1, ← el, nI_1]
        unfold sfI
        rw [seB_s, fb_ct_succ]
        cases l : lI f y with
        | false =>
          rw [b2_f, if_pos rfl, if_neg (by decide), if_neg (by decide)]
          exact ⟨a, rfl, ao, a1, a2, a3⟩
        | true =>
          obtain ⟨mn, ml⟩ := metA_nat s' e60 i ok y
          have o2 : snO h f (up2 a 48 3 (nI (fb_ct (lI f) y + 1))) := ⟨fun b hb => by rw [up2_a _ _ _ _ _ (by omega), ao.1 b hb], by rw [up2_a _ _ _ _ _ (by omega)]; exact ao.2⟩
          have b1 : up2 a 48 3 (nI (fb_ct (lI f) y + 1)) 48 1 = (seC f (seB f y)).1 := by rw [up2_k _ _ _ _ _ (by decide), a1]
          have b2' : up2 a 48 3 (nI (fb_ct (lI f) y + 1)) 48 2 = (seC f (seB f y)).2 := by rw [up2_k _ _ _ _ _ (by decide), a2]
          have b3 : up2 a 48 3 (nI (fb_ct (lI f) y + 1)) 48 3 = nI (fb_ct (lI f) y + 1) := up2_e _ _ _ _
          rw [b2_t, if_neg (by decide), if_pos rfl, if_pos rfl, gd_d (k48 (sK _ _ _ _)), wK_I (by omega), a3, nI_1, wK_so (by omega), wK_I (by omega), b2']
          obtain ⟨J3, ec, o3, oo, cs⟩ := x_compare s' i c o2 y8 b2'
          rw [mn] at cs
          rw [ec, ob2_s]
          have b33 : J3 48 3 = nI (fb_ct (lI f) y + 1) := by rw [oo 3 (by decide) (by decide), b3]
          cases v : seB f y with
          | none =>
            rw [v] at cs
            rw [if_neg (show ¬ nI (mN f y) ≤ (seC f none).2 from (Int32.not_le.mpr (neg1_lt _ (by omega)) : ¬ nI (mN f y) ≤ -1))] at cs
            rw [if_neg (show ¬ nI (wT f) ≤ (seC f none).2 from (Int32.not_le.mpr (neg1_lt _ (by omega)) : ¬ nI (wT f) ≤ -1))]
            exact ⟨J3, rfl, o3, cs.1, cs.2, b33⟩
          | some b =>
            rw [v] at cs b1 b2'
            have nb := (metA_nat s' e60 i ok b).2
            change if nI (mN f y) ≤ nI (mN f b) then _ else _ at cs
            show ∃ J2, (if nI (wT f) ≤ nI (mN f b) then _ else _) = _ ∧ _
            dsimp only
            by_cases p : mN f b < mN f y
            · rw [if_neg (nI_ge p (by omega))] at cs
              rw [if_neg (nI_ge (show mN f b < wT f by omega) (by omega)), if_pos p]
              exact ⟨J3, rfl, o3, cs.1, cs.2, b33⟩
            · rw [if_pos (nI_le (by omega) (by omega))] at cs
              rw [if_neg p]
              by_cases p2 : nI (wT f) ≤ nI (mN f b)
              · rw [if_pos p2]
                exact ⟨_, rfl, o2, b1, b2', b3⟩
              · rw [if_neg p2]
                exact ⟨J3, rfl, o3, cs.1.trans b1, cs.2, b33⟩
      obtain ⟨J2, e1, e2⟩ := eb
      exact ⟨y, J2, D1, S1, H1, y1, y2, e1, y6, e2⟩
    · right
      have ha : sfI h f (8 ^ nG f) a := skipV (I := fun P a => sfI h f P a) sfI_s hI (wA_le hw) y1
      refine ⟨wK (wI h a) D1 S1 H1, ?_, a, D1, S1, H1, rfl, ha⟩
      show F_X5_find_l40 48 3 45 (nI (wT f)) (nI j) (wK (wI h a) D S H) = _
      unfold F_X5_find_l40
      rw [nl_32768, if_neg (nI_ge hj (by omega)), y2, ob2_s, gd_d (k45 (sK _ _ _ _)), if_pos rfl]
  · refine ⟨wK (wI h a) D S H, ?_, a, D, S, H, rfl, hI⟩
    show F_X5_find_l40 48 3 45 (nI (wT f)) (nI 32768) (wK (wI h a) D S H) = _
    unfold F_X5_find_l40
    rw [nl_32768, if_pos (Int32.le_refl _)]
end SEATS2
