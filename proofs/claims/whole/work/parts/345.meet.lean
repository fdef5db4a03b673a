/-! THE CALL meeting; loops that count; all orders laid out -/
theorem iter_cnt {S X : Type} {body : S → Option (S ⊕ X)} {s0 : S} (I : Nat → S → Prop) (E : X → Prop) (n : Nat) (hs : ∀ j s, j < n → I j s → ∃ s', body s = some (.inl s') ∧ I (j + 1) s') (he : ∀ s, I n s → ∃ x, body s = some (.inr x) ∧ E x) (h0 : I 0 s0) {fuel : Nat} (hf : n < fuel) : ∃ x, iter body fuel s0 = some x ∧ E x := by
  refine iter_ex (fun u s => u ≤ n ∧ I (n - u) s) E (fun u s hI => ?_) fuel n s0 hf ⟨Nat.le_refl n, by rw [Nat.sub_self]; exact h0⟩
  obtain ⟨hu, hI⟩ := hI
  cases u with
  | zero =>
    left
    exact he s hI
  | succ u =>
    obtain ⟨s', h1, h2⟩ := hs _ s (by omega) hI
    refine Or.inr ⟨s', u, Nat.lt_succ_self u, h1, by omega, ?_⟩
    rw [show n - (u + 1) + 1 = n - u by omega] at h2
    exact h2
theorem ct_two (p q : Nat → Bool) : ∀ n, fb_ct p n = fb_ct (fun y => p y && q y) n + fb_ct (fun y => p y && !q y) n
  | 0 => rfl
  | n + 1 => by
    rw [fb_ct_succ, fb_ct_succ, fb_ct_succ, ct_two p q n]
    cases p n <;> cases q n <;> simp <;> omega
section MEET
variable {h : Hp} {f : Nat → Int32}
def eqI (f : Nat → Int32) (a b y : Nat) : Bool := decide (dg (nG f) y a = dg (nG f) y b)
def tgI (f : Nat → Int32) (k a b y : Nat) : Bool := rI f k y && eqI f a b y
def apI (f : Nat → Int32) (k a b y : Nat) : Bool := rI f k y && !eqI f a b y
def meA (T A : Nat) : Int32 := if T = 0 then (if A = 0 then -1 else 0) else if A = 0 then 2 else 1
theorem nI_dg {n y a b : Nat} : nI (dg n y a) = nI (dg n y b) ↔ dg n y a = dg n y b := by
  have := dg_lt n y a
  have := dg_lt n y b
  exact nI_eq (by omega) (by omega)
theorem m_meetL (s : Sh h) (e60 : zI h 60 = f) (i : Inv f) {k a b : Nat} (hk : k < 8) (ha : a < nG f) (hb : b < nG f) : iter (fun z : Int32 × Int32 × Int32 × Hp => F_X12_meeting_l53 59 (nI k) (nI a) (nI b) z.1 z.2.1 z.2.2.1 z.2.2.2) FU (0, 0, 0, h) = some (nI (fb_ct (rI f k) (8 ^ nG f)), nI (fb_ct (tgI f k a b) (8 ^ nG f)), stH h 66 (sqT f (zI h 66) (8 ^ nG f))) := by
  have g5 := iG5 i
  have p8 := pow8 g5
  refine iter_at (fun j => (nI (fb_ct (rI f k) j), nI (fb_ct (tgI f k a b) j), nI j, stH h 66 (sqT f (zI h 66) j))) (8 ^ nG f) _ ?_ (fun j hj => ?_) ?_ (FU_lt (by omega))
  · show _ = (nI 0, nI 0, nI 0, stH h 66 (zI h 66))
    rw [stH_0]
    rfl
  · show F_X12_meeting_l53 59 (nI k) (nI a) (nI b) (nI (fb_ct (rI f k) j)) (nI (fb_ct (tgI f k a b) j)) (nI j) (stH h 66 (sqT f (zI h 66) j)) = some (.inl (nI (fb_ct (rI f k) j + (if rI f k j then 1 else 0)), nI (fb_ct (tgI f k a b) j + (if tgI f k a b j then 1 else 0)), nI (j + 1), stH h 66 (sqT f (zI h 66) (j + 1))))
    have s' : Sh (stH h 66 (sqT f (zI h 66) j)) := s
    have s2 : Sh (stH h 66 (sqT f (zI h 66) (j + 1))) := s
    have e60' : zI (stH h 66 (sqT f (zI h 66) j)) 60 = f := by rw [stH_o (by decide), e60]
    have ea : zI (stH h 66 (sqT f (zI h 66) (j + 1))) 66 a = nI (dg (nG f) j a) := by
      rw [stH_e]
      show opF f j (sqT f (zI h 66) j) a = _
      exact fill_in ha
    have eb : zI (stH h 66 (sqT f (zI h 66) (j + 1))) 66 b = nI (dg (nG f) j b) := by
      rw [stH_e]
      show opF f j (sqT f (zI h 66) j) b = _
      exact fill_in hb
    unfold F_X12_meeting_l53 F_X12_meeting_b103 F_X12_meeting_b100 F_X12_meeting_b103
    rw [m_many s' e60' i, ob_s, gd_d (k59 s'), if_neg (nI_ge hj (by omega)), m_isRead s' e60' i hj hk, ob2_s, sq_st, gd_d (k59 s2), r59_15 s2, ob_s, gd_d (k66 s2), l66 s2, ix_t (by omega) (by omega), gd_t, ob_s, gd_d (k66 s2), l66 s2, ix_t (by omega) (by omega), gd_t, ncl (by omega), ncl (by omega), ea, eb, nI_1, nI_1, nl_0, nl_1, nadd, nadd]
    unfold tgI
    have eq : eqI f a b j = decide (dg (nG f) j a = dg (nG f) j b) := rfl
    cases rI f k j with
    | false => rfl
    | true =>
      rw [b2_t, if_neg (by decide), eq]
      by_cases p : dg (nG f) j a = dg (nG f) j b
      · rw [if_pos (nI_dg.mpr p), decide_eq_true p]
        rfl
      · rw [if_neg (fun z => p (nI_dg.mp z)), decide_eq_false p]
        rfl
  · show F_X12_meeting_l53 59 (nI k) (nI a) (nI b) _ _ (nI (8 ^ nG f)) (stH h 66 (sqT f (zI h 66) (8 ^ nG f))) = _
    have s' : Sh (stH h 66 (sqT f (zI h 66) (8 ^ nG f))) := s
    unfold F_X12_meeting_l53
    rw [m_many s' (by rw [stH_o (by decide), e60]) i, ob_s, gd_d (k59 s'), if_pos (Int32.le_refl _)]
theorem x_meetL (s' : Sh h) (i : Inv f) (c : HR (zI h) 3 f) {k g1 g2 : Nat} (hk : k < 8) (hg1 : g1 < nG f) (hg2 : g2 < nG f) {D S H : Nat → Int32} (w : wA f (sR f) D S H 0) : ∃ D' S' H', iter (fun z : Int32 × Int32 × Int32 × Hp => F_X11_meeting_l71 0 (nI k) (nI g1) (nI g2) z.1 z.2.1 z.2.2.1 z.2.2.2) FU (0, 0, 0, wK h D S H) = some (nI (fb_ct (tgI f k g1 g2) (8 ^ nG f)), nI (fb_ct (apI f k g1 g2) (8 ^ nG f)), wK h D' S' H') := by
  have g5 := iG5 i
  have p8 := pow8 g5
  have key := walk_loop (f := f) i (body := fun z : Int32 × Int32 × Int32 × Hp => F_X11_meeting_l71 0 (nI k) (nI g1) (nI g2) z.1 z.2.1 z.2.2.1 z.2.2.2) (fun (a : Nat × Nat) j D S H => (nI a.1, nI a.2, nI j, wK h D S H)) (sR f) (fun P a => a = (fb_ct (tgI f k g1 g2) P, fb_ct (apI f k g1 g2) P)) (fun x => ∃ D' S' H', x = (nI (fb_ct (tgI f k g1 g2) (8 ^ nG f)), nI (fb_ct (apI f k g1 g2) (8 ^ nG f)), wK h D' S' H')) (fun a j D S H P hI hw hk2 hj => ?_) (fun a D S H hI => ?_) (a0 := (0, 0)) rfl w
  · obtain ⟨x, hx, D', S', H', hE⟩ := key
    refine ⟨D', S', H', ?_⟩
    rw [← hE]
    exact hx
  · have skip : ∀ j (a : Nat × Nat), vI f j = false → a = (fb_ct (tgI f k g1 g2) j, fb_ct (apI f k g1 g2) j) → a = (fb_ct (tgI f k g1 g2) (j + 1), fb_ct (apI f k g1 g2) (j + 1)) := fun j a hv ha => by
      have e0 : rI f k j = false := by
        unfold rI
        rw [hv]
        rfl
      have e1 : tgI f k g1 g2 j = false := by
        unfold tgI
        rw [e0]
        rfl
      have e2 : apI f k g1 g2 j = false := by
        unfold apI
        rw [e0]
        rfl
      rw [fb_ct_succ, fb_ct_succ, e1, e2, ha]
      rfl
    rcases x_adv s' i c hw with ⟨y, D1, S1, H1, y1, y2, y3, y4, y5, y6, y7, y8⟩ | ⟨D1, S1, H1, y1, y2⟩
    · left
      have ha : a = (fb_ct (tgI f k g1 g2) y, fb_ct (apI f k g1 g2) y) := skipV (I := fun P a => a = (fb_ct (tgI f k g1 g2) P, fb_ct (apI f k g1 g2) P)) skip hI y1 y3
      obtain ⟨n0, n1⟩ := wP_net y8
      obtain ⟨r0, r1⟩ := e_read c hk
      refine ⟨y, (fb_ct (tgI f k g1 g2) (y + 1), fb_ct (apI f k g1 g2) (y + 1)), D1, S1, H1, y1, y2, ?_, y6, rfl⟩
      show F_X11_meeting_l71 0 (nI k) (nI g1) (nI g2) (nI a.1) (nI a.2) (nI j) (wK h D S H) = some (.inl (nI (fb_ct (tgI f k g1 g2) y + (if tgI f k g1 g2 y then 1 else 0)), nI (fb_ct (apI f k g1 g2) y + (if apI f k g1 g2 y then 1 else 0)), nI (j + 1), wK h D1 S1 H1))
      unfold F_X11_meeting_l71 F_X11_meeting_b151
      rw [nl_32768, if_neg (nI_ge hj (by omega)), wK_k, gd_d (k0 s'), wK_r, r0_5 s', ob_s, r0_1 s', ob_s, y5, ob2_s, wK_k, gd_d (k45 s'), if_neg (by decide), wK_k, gd_d (k0 s'), wK_r, r0_5 s', ob_s, r0_1 s', ob_s, wK_k, gd_d (k3 s'), r3_18 s', ob_s, wK_k, gd_d (k19 s'), wK_l, l19 s', ix_t hk (by omega), gd_t, ob_s, wK_k, gd_d (k3 s'), r3_19 s', ob_s, wK_k, gd_d (k20 s'), wK_l, l20 s', ix_t hk (by omega), gd_t, ncl (by omega), wK_o (a := 19) (by omega), wK_o (a := 20) (by omega), r0, r1, x_isAt s', ob_s, wK_k, gd_d (k45 s'), n0, n1]
      have er : rI f k y = (decide (nq f (sR f) 0 (dg (nG f) y) = f (131 + 2 * k)) && decide (nq f (sR f) 1 (dg (nG f) y) = f (132 + 2 * k))) := by
        unfold rI
        rw [y4]
        rfl
      rw [← er, ha]
      have i1 : tgI f k g1 g2 y = (rI f k y && eqI f g1 g2 y) := rfl
      have i2 : apI f k g1 g2 y = (rI f k y && !eqI f g1 g2 y) := rfl
      have eq : eqI f g1 g2 y = decide (dg (nG f) y g1 = dg (nG f) y g2) := rfl
      rw [i1, i2, eq]
      cases rI f k y with
      | false =>
        rw [b2_f, if_pos rfl, nI_1]
        rfl
      | true =>
        rw [b2_t, if_neg (by decide), ob_s, wK_k, gd_d (k45 s'), r45_0 s', ob_s, wK_k, gd_d (k46 s'), wK_l, l46 s', ix_t (by omega) (by omega), gd_t, ob_s, wK_k, gd_d (k45 s'), r45_0 s', ob_s, wK_k, gd_d (k46 s'), wK_l, l46 s', ix_t (by omega) (by omega), gd_t, ncl (by omega), ncl (by omega), wK_46, y8.1.2.1 g1 hg1, y8.1.2.1 g2 hg2]
        by_cases p : dg (nG f) y g1 = dg (nG f) y g2
        · rw [if_pos (nI_dg.mpr p), decide_eq_true p, nI_1, nI_1]
          rfl
        · rw [if_neg (fun z => p (nI_dg.mp z)), decide_eq_false p, nI_1, nI_1]
          rfl
    · right
      have ha : a = (fb_ct (tgI f k g1 g2) (8 ^ nG f), fb_ct (apI f k g1 g2) (8 ^ nG f)) := by
        have hP : P ≤ 8 ^ nG f := wA_le hw
        exact skipV (I := fun P a => a = (fb_ct (tgI f k g1 g2) P, fb_ct (apI f k g1 g2) P)) skip hI hP y1
      refine ⟨(nI a.1, nI a.2, wK h D1 S1 H1), ?_, D1, S1, H1, by rw [ha]⟩
      show F_X11_meeting_l71 0 (nI k) (nI g1) (nI g2) (nI a.1) (nI a.2) (nI j) (wK h D S H) = _
      unfold F_X11_meeting_l71
      rw [nl_32768, if_neg (nI_ge hj (by omega)), wK_k, gd_d (k0 s'), wK_r, r0_5 s', ob_s, r0_1 s', ob_s, y2, ob2_s, wK_k, gd_d (k45 s'), if_pos rfl]
  · refine ⟨(nI a.1, nI a.2, wK h D S H), ?_, D, S, H, by rw [hI]⟩
    show F_X11_meeting_l71 0 (nI k) (nI g1) (nI g2) (nI a.1) (nI a.2) (nI 32768) (wK h D S H) = _
    unfold F_X11_meeting_l71
    rw [nl_32768, if_pos (Int32.le_refl _)]
theorem j_meeting (g : GS h) (v a b : Int32) : JB h (F_L_meeting 0 v a b 72) (F_X12_meeting 59 v a b) := by
  obtain ⟨s, i, c, -⟩ := id g
  have d8 := iD8 i
  have g5 := iG5 i
  have p8 := pow8 g5
  by_cases q : isIn v (nD (zI h 60)) = true ∧ isIn a (nG (zI h 60)) = true ∧ isIn b (nG (zI h 60)) = true
  · obtain ⟨q1, q2, q3⟩ := q
    obtain ⟨k, hk, rfl⟩ := isIn_of (by omega) q1
    obtain ⟨ga, hga, rfl⟩ := isIn_of (by omega) q2
    obtain ⟨gb, hgb, rfl⟩ := isIn_of (by omega) q3
    obtain ⟨D, S, H, st, w⟩ := x_start s i c (e_sR i c).2
    obtain ⟨D1, S1, H1, lp⟩ := x_meetL s i c (show k < 8 by omega) hga hgb w
    have e2 := ct_two (rI (zI h 60) k) (eqI (zI h 60) ga gb) (8 ^ nG (zI h 60))
    have le := fb_ct_le (rI (zI h 60) k) (8 ^ nG (zI h 60))
    change fb_ct (rI (zI h 60) k) (8 ^ nG (zI h 60)) = fb_ct (tgI (zI h 60) k ga gb) (8 ^ nG (zI h 60)) + fb_ct (apI (zI h 60) k ga gb) (8 ^ nG (zI h 60)) at e2
    have e : F_X11_meeting 0 (nI k) (nI ga) (nI gb) h = some (.inl (meA (fb_ct (tgI (zI h 60) k ga gb) (8 ^ nG (zI h 60))) (fb_ct (apI (zI h 60) k ga gb) (8 ^ nG (zI h 60)))), wK h D1 S1 H1, 0, 0) := by
      unfold F_X11_meeting F_X11_meeting_b0
      rw [gd_d (k0 s), r0_1 s, ob_s, x_hasReading s i c, ob_s, gd_d (k3 s), q1, b2_t, if_neg (by decide), ob_s, x_hasGuest s i c, ob_s, gd_d (k3 s), q2, b2_t, if_neg (by decide), ob_s, x_hasGuest s i c, ob_s, gd_d (k3 s), q3, b2_t, if_neg (by decide), r0_5 s, ob_s, ob_s, ob_s, gd_d (k3 s), (e_sR i c).1, st, ob2_s, gd_d (k45 s), lp, ob_s]
      show F_X11_meeting_b157 (nI (fb_ct (tgI (zI h 60) k ga gb) (8 ^ nG (zI h 60)))) (nI (fb_ct (apI (zI h 60) k ga gb) (8 ^ nG (zI h 60)))) (wK h D1 S1 H1) = _
      generalize fb_ct (tgI (zI h 60) k ga gb) (8 ^ nG (zI h 60)) = T at *
      generalize fb_ct (apI (zI h 60) k ga gb) (8 ^ nG (zI h 60)) = A at *
      unfold F_X11_meeting_b157 F_X11_meeting_b172 F_X11_meeting_b183 meA
      by_cases z1 : T = 0
      · subst z1
        rw [if_pos (show nI 0 = 0 from rfl), if_pos rfl]
        by_cases z2 : A = 0
        · subst z2
          rw [if_pos (show nI 0 = 0 from rfl), if_pos rfl]
        · rw [if_neg (nI_ne0 (by omega) (by omega)), if_neg z2]
      · rw [if_neg (nI_ne0 (by omega) (by omega)), if_neg z1]
        by_cases z2 : A = 0
        · subst z2
          rw [if_pos (show nI 0 = 0 from rfl), if_pos rfl]
        · rw [if_neg (nI_ne0 (by omega) (by omega)), if_neg z2]
    generalize hR : meA (fb_ct (tgI (zI h 60) k ga gb) (8 ^ nG (zI h 60))) (fb_ct (apI (zI h 60) k ga gb) (8 ^ nG (zI h 60))) = R at e
    have e60 : zI (setL (wK h D1 S1 H1) 72 0 R.toInt64) 60 = zI h 60 := wK_o (h := h) (D := D1) (S := S1) (H := H1) (a := 60) (by omega)
    have sM : Sh (setL (wK h D1 S1 H1) 72 0 R.toInt64) := s
    have iM : Inv (zI (setL (wK h D1 S1 H1) 72 0 R.toInt64) 60) := by rw [e60]; exact i
    have lm := m_meetL (t0_s sM) (t0_60.trans e60) i (show k < 8 by omega) hga hgb
    have em : F_X12_meeting 59 (nI k) (nI ga) (nI gb) (setL (wK h D1 S1 H1) 72 0 R.toInt64) = some (R, stH (t0 (setL (wK h D1 S1 H1) 72 0 R.toInt64)) 66 (sqT (zI h 60) (zI (t0 (setL (wK h D1 S1 H1) 72 0 R.toInt64)) 66) (8 ^ nG (zI h 60)))) := by
      unfold F_X12_meeting F_X12_meeting_b0 F_X12_meeting_b35
      rw [gd_d (k59 sM), t0_d, m_noReading (t0_s sM) (t0_i iM), ob_s, m_noGuest (t0_s sM) (t0_i iM), ob_s, m_noGuest (t0_s sM) (t0_i iM), ob_s, t0_60, e60, q1, q2, q3, Bool.not_true, b2_f, if_pos rfl, if_pos rfl, if_pos rfl, m_thr0 (t0_s sM), ob2_s, gd_d (k59 (t0_s sM)), if_pos rfl, lm, ob_s, ← hR]
      show (if nI (fb_ct (rI (zI h 60) k) (8 ^ nG (zI h 60))) = 0 then _ else _) = _
      rw [e2]
      rw [e2] at le
      generalize fb_ct (tgI (zI h 60) k ga gb) (8 ^ nG (zI h 60)) = T at *
      generalize fb_ct (apI (zI h 60) k ga gb) (8 ^ nG (zI h 60)) = A at *
      unfold F_X12_meeting_b139 meA
      by_cases z1 : T = 0
      · subst z1
        rw [if_pos (show (0 : Nat) = 0 from rfl)]
        by_cases z2 : A = 0
        · subst z2
          rw [if_pos (show nI (0 + 0) = 0 from rfl), if_pos rfl]
        · rw [if_neg (nI_ne0 (by omega) (by omega)), if_neg z2]
          show (if nI 0 = nI (0 + A) then _ else if nI 0 ≤ 0 then _ else _) = _
          rw [if_neg (fun z => z2 (by have := (nI_eq (by omega) (by omega)).mp z; omega)), if_pos (by decide)]
      · rw [if_neg (nI_ne0 (by omega) (by omega)), if_neg z1]
        show (if nI T = nI (T + A) then _ else if nI T ≤ 0 then _ else _) = _
        by_cases z2 : A = 0
        · subst z2
          rw [if_pos (show nI T = nI (T + 0) from rfl), if_pos rfl]
        · rw [if_neg (fun z => z2 (by have := (nI_eq (by omega) (by omega)).mp z; omega)), if_neg (nI_nle (by omega) (by omega)), if_neg z2]
    refine JB_w g (r := R) (J1 := zI (wK h D1 S1 H1)) (J2 := _) ?_ em ?_ (GS_w g (fun a k h1 h2 h3 h4 => (stH_m66 a k h1).trans ((t0_m a k h1).trans (wK_q a k h1 h2 h3 h4))))
    · unfold F_L_meeting; rw [gd_d (k0 s), e, ob4_s]; exact put_out (Sh_w s _) _
    · rw [va_n _ _ _ _ (by decide)]
      exact t0_z
  · have e : F_X11_meeting 0 v a b h = some (.inr 2, h, 1, 6) := by
      unfold F_X11_meeting F_X11_meeting_b0 F_X11_meeting_b33
      rw [gd_d (k0 s), r0_1 s, ob_s, x_hasReading s i c, ob_s, gd_d (k3 s), ob_s, x_hasGuest s i c, ob_s, gd_d (k3 s), ob_s, x_hasGuest s i c, ob_s, gd_d (k3 s)]
      cases z1 : isIn v (nD (zI h 60)) with
      | false => rw [b2_f, if_pos rfl]
      | true =>
        rw [b2_t, if_neg (by decide)]
        cases z2 : isIn a (nG (zI h 60)) with
        | false => rw [b2_f, if_pos rfl]
        | true =>
          rw [b2_t, if_neg (by decide)]
          cases z3 : isIn b (nG (zI h 60)) with
          | false => rw [b2_f, if_pos rfl]
          | true => exact absurd ⟨z1, z2, z3⟩ q
    refine JB_t g (k := 1) (by decide) ?_ ⟨0, zI (tk h 1), ?_, tk_m, tk_z⟩
    · unfold F_L_meeting; rw [gd_d (k0 s), e, ob4_s]; rfl
    · have e3 : ∀ r : Int32, F_X12_meeting_b30 59 v a b 59 (t0 h) = some (0, tk h 1) := fun r => by
        unfold F_X12_meeting_b30 F_X12_meeting_b35
        rw [m_thr1 (t0_s s), ob2_s, gd_d (k59 (t0_s s)), if_neg (by decide)]
        rfl
      unfold F_X12_meeting F_X12_meeting_b0
      rw [gd_d (k59 s), t0_d, m_noReading (t0_s s) (t0_i i), ob_s, m_noGuest (t0_s s) (t0_i i), ob_s, m_noGuest (t0_s s) (t0_i i), ob_s, t0_60, e3 0]
      cases z1 : isIn v (nD (zI h 60)) with
      | false => rfl
      | true =>
        rw [Bool.not_true, b2_f, if_pos rfl]
        cases z2 : isIn a (nG (zI h 60)) with
        | false => rfl
        | true =>
          rw [Bool.not_true, b2_f, if_pos rfl]
          cases z3 : isIn b (nG (zI h 60)) with
          | false => rfl
          | true => exact absurd ⟨z1, z2, z3⟩ q
end MEET
