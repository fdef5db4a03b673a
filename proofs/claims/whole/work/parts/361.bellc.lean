/-! THE CLASS: bells to a seating -/
section BELLC
variable {h : Hp} {f : Nat → Int32}
theorem cB_id {A Q n : Nat} (q : aQ h A Q n) : cB h A Q (zI h A) (zI h Q) (zI h 50 2) = h := by
  rw [cB_0 q, setI_w]
  have : up2 (zI h) 50 2 (zI h 50 2) = zI h := by
    funext a
    by_cases e : a = 50
    · subst e
      rw [up2_v1, va_same]
    · rw [up2_a _ _ _ _ _ e]
  rw [this, wI_0]
/-- what is left of the heap behind the search -/
def paO (h hx : Hp) (J : Nat → Nat → Int32) (A Q n m : Nat) : Prop := GS hx ∧ Pt hx A Q n ∧ 8 ^ m ≤ n ∧ n ≤ 32768 ∧ 73 ≤ A ∧ 73 ≤ Q ∧ (∀ a, a < 73 → zI hx a = zI h a) ∧ ∀ a, a ≠ A → a ≠ Q → (a < 45 ∨ 47 < a) → a ≠ 50 → J a = zI hx a
theorem sh_hr {hx : Hp} {J : Nat → Nat → Int32} {A Q n m : Nat} (o : shO h hx J A Q n m) : HR (zI hx) 3 (zI h 60) ∧ Inv (zI h 60) := by
  obtain ⟨g, -, -, -, -, -, e, -⟩ := o
  obtain ⟨-, i, c, -⟩ := g
  rw [e 60 (by omega)] at i c
  exact ⟨c, i⟩
theorem x_bellsTo (g : GS h) (e60 : zI h 60 = f) {T : Nat} (hT : T < 8 ^ nG f) (hTF : ordS (sit f) (nG f) ≠ T) : ∃ hx J A Q n c sl out, F_X4_bellsTo 50 (nI (piS (nG f) T)) 3 45 h = some (out, wI hx J, c, sl) ∧ paO h hx J A Q n (nG f) ∧ c + potC hx ≤ potC h ∧ sl + potS hx ≤ potS h ∧ ((lI f T = false ∧ out = -1) ∨ (lI f T = true ∧ ∃ S o, blE f T (ordS (sit f) (nG f)) S o ∧ out = fe o ∧ ∀ y, y < 8 ^ nG f → J A (piS (nG f) y) = fc (S.1 y) (okF (lI f) (ordS (sit f) (nG f)) y))) := by
  obtain ⟨s, i, c, -⟩ := id g
  rw [e60] at i c
  have g5 := iG5 i
  have p8 := pow8 g5
  have hF : ordS (sit f) (nG f) < 8 ^ nG f := ordS_lt (sit8 i)
  have eF : numS (sit f) (nG f) = piS (nG f) (ordS (sit f) (nG f)) := (pi_ord (sit8 i)).symm
  have pT := piS_lt (nG f) T
  have pF := piS_lt (nG f) (ordS (sit f) (nG f))
  have eas : F_X2_asNumber 3 9 h = some (nI (piS (nG f) (ordS (sit f) (nG f)))) := by
    rw [x_asNumber s i c (k9 s) (l9 s) (seat9 i c), eF]
  have nF : ¬ nI (piS (nG f) (ordS (sit f) (nG f))) = nI (piS (nG f) T) := fun z => hTF (pi_inj hF hT ((nI_eq (by omega) (by omega)).mp z))
  obtain ⟨hx, J, A, Q, n, c0, sl, esh, o, po1, po2⟩ := x_shutAll g (m := nG f) g5
  obtain ⟨cx, -⟩ := sh_hr o
  rw [e60] at cx
  obtain ⟨gx, px, hn1, hn2, hA, hQ, lo, jA, j50, jo⟩ := id o
  have sx := gx.1
  generalize hFF : ordS (sit f) (nG f) = F at *
  have cJ : ∀ a : Nat → Nat → Int32, (∀ b, b ≠ A → a b = J b) → HR (zI (wI hx a)) 3 f := fun a ha => HR_congr (f := f) (fun b hb => (ha _ (by omega)).trans (jo _ (by omega) (by omega))) (fun g hg => ⟨(ha _ (by omega)).trans (jo _ (by omega) (by omega)), (ha _ (by omega)).trans (jo _ (by omega) (by omega))⟩) (fun _ _ => rfl) i cx
  have cJ0 := cJ J (fun _ _ => rfl)
  obtain ⟨D, S, H, st, w⟩ := x_start (h := wI hx J) sx i cJ0 (e_sR i cJ0).2
  obtain ⟨J', D', S', H', eop, o1, o2, o3⟩ := x_openLevel sx i px hA hn2 cJ (q := sR f) (bs := 0) (by omega) w
  have hfar : ∀ y, y < 8 ^ nG f → J' A (piS (nG f) y) = if lI f y then -1 else -2 := fun y hy => by
    cases l : lI f y with
    | true =>
      have := o2 y hy hy l
      rw [Nat.zero_add] at this
      exact this
    | false =>
      have := o3 (piS (nG f) y) (fun z hz hl q => by
        rw [Nat.zero_add] at q
        have := pi_inj hy hz q
        subst this
        have l2 : lI f y = true := hl
        rw [l] at l2
        cases l2)
      rw [this, jA _ (piS_lt _ _)]
      rfl
  have sK : Sh (wK (wI hx J') D' S' H') := sx
  have cK : HR (zI (wK (wI hx J') D' S' H')) 3 f := wK_c i (cJ J' o1)
  have aq : aQ (wK (wI hx J') D' S' H') A Q n := ⟨hA, hQ, px.2.2.2.2.2.2.1, hn2, px.1, px.2.1, px.2.2.1, px.2.2.2.1, px.2.2.2.2.1, px.2.2.2.2.2.1⟩
  have zA : zI (wK (wI hx J') D' S' H') A = J' A := wK_I (by omega)
  have zc : zI (wK (wI hx J') D' S' H') 50 2 = 0 := by rw [wK_I (by omega), o1 50 (by omega), j50]
  have jK : ∀ a, a ≠ A → (a < 45 ∨ 47 < a) → a ≠ 50 → zI (wK (wI hx J') D' S' H') a = zI hx a := fun a h1 h2 h3 => by rw [wK_I h2, o1 a h1, jo a h1 h3]
  have k50h := k50 s
  have e11 : zI (wI hx J) 3 11 = nI (sR f) := (e_sR i cJ0).1
  have e5 : zI h 3 5 = nI (nG f) := c.1.2.1.trans (iG i)
  have sJ : Sh (wI hx J) := sx
  have sD : Sh (wK (wI hx J) D S H) := sx
  have pre : F_X4_bellsTo 50 (nI (piS (nG f) T)) 3 45 h = ac c0 sl (if lI f T then ob2 (F_X4_reach 50 (nI (piS (nG f) T)) 0 (setI (wK (wI hx J') D' S' H') A (piS (nG f) F) (-1))) (fun _ h40 => ob (iter (fun z : Int32 × Hp => F_X4_bellsTo_l94 50 3 (nI (piS (nG f) F)) z.1 z.2) FU (0, h40)) (fun h59 => F_X4_bellsTo_b142 50 (nI (piS (nG f) F)) h59)) else some (-1, wK (wI hx J') D' S' H', 0, 0)) := by
    have eop0 : F_X4_openLevel 50 0 3 45 (wK (wI hx J) D S H) = some ((), wK (wI hx J') D' S' H') := eop
    unfold F_X4_bellsTo F_X4_bellsTo_b0 F_X4_bellsTo_b75
    rw [gd_d (k3 s), r3_7 s, ob_s, eas, ob_s, if_neg nF, e5, esh, ob4_s, gd_d k50h, gd_d (k3 sJ), e11, st, ob2_s, gd_d (k45 sJ), eop0, ob2_s, gd_d (k50 sD), if_neg (nI_pos (by omega)), gd_d (k50 sK), aq.2.2.2.2.1, ob_s, gd_d aq.2.2.2.2.2.2.1, aq.2.2.2.2.2.2.2.2.1]
    congr 1
    show (if nI n ≤ nI (piS (nG f) T) then _ else _) = _
    rw [if_neg (nI_ge (by omega) (by omega)), ob_s, gd_d aq.2.2.2.2.2.2.1, aq.2.2.2.2.2.2.2.2.1]
    show (if nI n ≤ nI (piS (nG f) F) then _ else _) = _
    rw [if_neg (nI_ge (by omega) (by omega)), ob_s, gd_d aq.2.2.2.2.2.2.1, aq.2.2.2.2.2.2.2.2.1, ix_t (by omega) (by omega), gd_t, ncl (by omega), zA, hfar T hT, ob_s, gd_d aq.2.2.2.2.2.2.1, aq.2.2.2.2.2.2.2.2.1, ix_t (by omega) (by omega), gd_t, ncl (by omega)]
    cases lI f T with
    | false => rfl
    | true => rfl
  have paK : ∀ Jz : Nat → Nat → Int32, (∀ a, a ≠ A → a ≠ Q → a ≠ 50 → Jz a = zI (wK (wI hx J') D' S' H') a) → paO h hx Jz A Q n (nG f) := fun Jz hz => ⟨gx, px, hn1, hn2, hA, hQ, lo, fun a h1 h2 h3 h4 => by rw [hz a h1 h2 h4, jK a h1 h3 h4]⟩
  cases l : lI f T with
  | false =>
    rw [l, if_neg (by decide), ac_s] at pre
    exact ⟨hx, zI (wK (wI hx J') D' S' H'), A, Q, n, 0 + c0, 0 + sl, -1, pre, paK _ (fun _ _ _ _ => rfl), by omega, by omega, Or.inl ⟨rfl, rfl⟩⟩
  | true =>
    rw [l, if_pos rfl] at pre
    have er : F_X4_reach 50 (nI (piS (nG f) T)) 0 (setI (wK (wI hx J') D' S' H') A (piS (nG f) F) (-1)) = some ((), cB (wK (wI hx J') D' S' H') A Q (va_up (va_up (J' A) (piS (nG f) F) (-1)) (piS (nG f) T) 0) (va_up (zI (wK (wI hx J') D' S' H') Q) 0 (nI (piS (nG f) T))) 1) := by
      have e1 : setI (wK (wI hx J') D' S' H') A (piS (nG f) F) (-1) = cB (wK (wI hx J') D' S' H') A Q (va_up (J' A) (piS (nG f) F) (-1)) (zI (wK (wI hx J') D' S' H') Q) 0 := by
        have := cB_wA aq (Fa := zI (wK (wI hx J') D' S' H') A) (Qa := zI (wK (wI hx J') D' S' H') Q) (c := zI (wK (wI hx J') D' S' H') 50 2) (k := piS (nG f) F) (v := -1)
        rw [cB_id aq, zc, zA] at this
        exact this
      have s' : ∀ Fa Qa c, Sh (cB (wK (wI hx J') D' S' H') A Q Fa Qa c) := fun _ _ _ => sx
      have rA : ∀ Fa Qa c, zR (cB (wK (wI hx J') D' S' H') A Q Fa Qa c) 50 0 = some A := fun _ _ _ => aq.2.2.2.2.1
      have rQ : ∀ Fa Qa c, zR (cB (wK (wI hx J') D' S' H') A Q Fa Qa c) 50 1 = some Q := fun _ _ _ => aq.2.2.2.2.2.1
      have kA : ∀ Fa Qa c, kd (cB (wK (wI hx J') D' S' H') A Q Fa Qa c) A = 13 := fun _ _ _ => aq.2.2.2.2.2.2.1
      have kQ : ∀ Fa Qa c, kd (cB (wK (wI hx J') D' S' H') A Q Fa Qa c) Q = 13 := fun _ _ _ => aq.2.2.2.2.2.2.2.1
      have lA : ∀ Fa Qa c, zl (cB (wK (wI hx J') D' S' H') A Q Fa Qa c) A = n := fun _ _ _ => aq.2.2.2.2.2.2.2.2.1
      have lQ : ∀ Fa Qa c, zl (cB (wK (wI hx J') D' S' H') A Q Fa Qa c) Q = n := fun _ _ _ => aq.2.2.2.2.2.2.2.2.2
      have hT2 : va_up (J' A) (piS (nG f) F) (-1) (piS (nG f) T) = -1 := by
        rw [va_n _ _ _ _ (fun q => hTF (pi_inj hF hT q.symm)), hfar T hT, l, if_pos rfl]
      have z0 : (0 : Int32).toNatClampNeg = 0 := by decide
      rw [e1]
      unfold F_X4_reach F_X4_reach_b0 F_X4_reach_b49
      rw [gd_d (k50 (s' _ _ _)), rA, ob_s, gd_d (kA _ _ _), lA, ix_t (by omega) (by omega), gd_t, ncl (by omega), cB_A aq, hT2, if_pos rfl, rQ, ob_s, gd_d (kQ _ _ _), lQ, cB_c]
      show (if nI n ≤ nI 0 then _ else _) = _
      rw [if_neg (nI_ge (by have := p8p (nG f); omega) (by omega)), ob_s, gd_d (kA _ _ _), lA, ix_t (by omega) (by omega), gd_t, cB_wA aq, rQ, ob_s, gd_d (kQ _ _ _), lQ, cB_c, nl_0, ix_t (by have := p8p (nG f); omega) (by omega), gd_t, ob_s, ncl (by omega), cB_wQ aq, cB_c, cB_wc]
      rfl
    have b0 : cR (piS (nG f)) (8 ^ nG f) (okF (lI f) F) (bIn T) (va_up (va_up (J' A) (piS (nG f) F) (-1)) (piS (nG f) T) 0) (va_up (zI (wK (wI hx J') D' S' H') Q) 0 (nI (piS (nG f) T))) := by
      constructor
      · intro y hy
        show _ = fc (va_up (fun _ => none) T (some 0) y) _
        by_cases e : y = T
        · subst e
          rw [va_e, va_e]
          rfl
        · rw [va_n _ _ _ _ (fun q => e (pi_inj hy hT q)), va_n _ _ _ _ e]
          by_cases e2 : y = F
          · subst e2
            rw [va_e, okF_F]
            rfl
          · rw [va_n _ _ _ _ (fun q => e2 (pi_inj hy hF q)), hfar y hy, okF_n e2]
            rfl
      · intro j hj
        have : j < 1 := hj
        have : j = 0 := by omega
        subst this
        rw [va_e]
        rfl
    obtain ⟨S1, o1', Fa, Qa, be, lp, bR⟩ := x_bellsL sK i cK aq hn1 hT hF hTF b0
    have aq2 : aQ (cB (wK (wI hx J') D' S' H') A Q Fa Qa (nI S1.2.2)) A Q n := aq
    have s2 : Sh (cB (wK (wI hx J') D' S' H') A Q Fa Qa (nI S1.2.2)) := sx
    have nbl : ∀ x y, x < 8 ^ nG f → y ∈ nbB f x → y < 8 ^ nG f := fun x y hx hy => nbB_lt i hx hy
    have e142 : F_X4_bellsTo_b142 50 (nI (piS (nG f) F)) (cB (wK (wI hx J') D' S' H') A Q Fa Qa (nI S1.2.2)) = some (fe o1', cB (wK (wI hx J') D' S' H') A Q Fa Qa (nI S1.2.2), 0, 0) := by
      unfold F_X4_bellsTo_b142 F_X4_bellsTo_b164
      rw [gd_d (k50 s2), aq2.2.2.2.2.1, ob_s, gd_d aq2.2.2.2.2.2.2.1, aq2.2.2.2.2.2.2.2.2.1, ix_t (by omega) (by omega), gd_t, ncl (by omega), cB_A aq, bR.1 F hF, okF_F, ob_s, gd_d aq2.2.2.2.2.2.2.1, aq2.2.2.2.2.2.2.2.2.1, ix_t (by omega) (by omega), gd_t]
      obtain ⟨j, ej, ⟨q1, q2, q3⟩ | ⟨k, D, q1, q2, q3, q4, q5⟩⟩ := be
      · rw [q1, q3]
        rfl
      · have rv := (bRun_v (ok := okF (lI f) F) (nb := nbB f) hT nbl j).1
        rw [← ej] at rv
        have := bV_b rv q5
        have := bV_all rv
        rw [q1, q5, if_neg (show ¬ fc (some D) true = -1 from neg1_nI (by omega)), cB_A aq, bR.1 F hF, okF_F, q5]
        rfl
    rw [er, ob2_s, lp, ob_s, e142, ac_s] at pre
    refine ⟨hx, zI (cB (wK (wI hx J') D' S' H') A Q Fa Qa (nI S1.2.2)), A, Q, n, 0 + c0, 0 + sl, fe o1', pre, paK _ (fun a h1 h2 h3 => cB_o h1 h2 h3), by omega, by omega, Or.inr ⟨rfl, S1, o1', be, rfl, fun y hy => ?_⟩⟩
    rw [cB_A aq]
    exact bR.1 y hy
end BELLC
