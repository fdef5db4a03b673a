/-! THE STOVE: the class's call -/
section STOVED
variable {h : Hp} {f : Nat → Int32}
theorem wK_wK {D S H D' S' H' : Nat → Int32} : wK (wK h D S H) D' S' H' = wK h D' S' H' := by
  show wI h (zI (wK (wK h D S H) D' S' H')) = wK h D' S' H'
  refine wK_e (fun a => ?_)
  rw [wK_at]
  by_cases h1 : a = 45
  · rw [if_pos h1, if_pos h1]
  · rw [if_neg h1, if_neg h1]
    by_cases h2 : a = 46
    · rw [if_pos h2, if_pos h2]
    · rw [if_neg h2, if_neg h2]
      by_cases h3 : a = 47
      · rw [if_pos h3, if_pos h3]
      · rw [if_neg h3, if_neg h3, wK_at, if_neg h1, if_neg h2, if_neg h3]
/-- where the search begins -/
def stT (f : Nat → Int32) : Nat := 8 * ordS (sit f) (nG f) + sR f
theorem x_stoveTo (g : GS h) (e60 : zI h 60 = f) (hG : nG f < 5) {rm : Nat} (hrm : rm < nR f) (hs : sR f < nR f) (hne : sR f ≠ rm) : ∃ hx J A Q n c sl ans, F_X4_stoveTo 50 (nI rm) 3 45 h = some (ans, wI hx J, c, sl) ∧ paO h hx J A Q n (nG f + 1) ∧ c + potC hx ≤ potC h ∧ sl + potS hx ≤ potS h ∧ stE f (stT f) rm ans := by
  obtain ⟨s, i, c, -⟩ := id g
  rw [e60] at i c
  have r8 := iR8 i
  have p8 : 8 ^ (nG f + 1) ≤ 32768 := pow8 (by omega)
  have hF : ordS (sit f) (nG f) < 8 ^ nG f := ordS_lt (sit8 i)
  have eF : numS (sit f) (nG f) = piS (nG f) (ordS (sit f) (nG f)) := (pi_ord (sit8 i)).symm
  have hT : stT f < 8 ^ (nG f + 1) := mul8 hF (by omega)
  have pT : piT (nG f) (stT f) < 8 ^ (nG f + 1) := piT_lt
  have eT : piT (nG f) (stT f) = piS (nG f) (ordS (sit f) (nG f)) + sR f * 8 ^ nG f := piT_mk (by omega)
  obtain ⟨hx, J, A, Q, n, c0, sl, esh, o, po1, po2⟩ := x_shutAll g (m := nG f + 1) (by omega)
  obtain ⟨cx, -⟩ := sh_hr o
  rw [e60] at cx
  obtain ⟨gx, px, hn1, hn2, hA, hQ, lo, jA, j50, jo⟩ := id o
  have sx := gx.1
  have cJ : ∀ a : Nat → Nat → Int32, (∀ b, b ≠ A → a b = J b) → HR (zI (wI hx a)) 3 f := fun a ha => HR_congr (f := f) (fun b hb => (ha _ (by omega)).trans (jo _ (by omega) (by omega))) (fun g hg => ⟨(ha _ (by omega)).trans (jo _ (by omega) (by omega)), (ha _ (by omega)).trans (jo _ (by omega) (by omega))⟩) (fun _ _ => rfl) i cx
  have sK : ∀ a D S H, Sh (wK (wI hx a) D S H) := fun _ _ _ _ => sx
  -- all rooms of the stove are laid open
  have l31 : ∃ a D S H, iter (fun z : Int32 × Hp => F_X4_stoveTo_l31 50 (nI rm) 3 45 ((3 : Int32) * nI (nG f)) z.1 z.2) FU (0, wI hx J) = some (wK (wI hx a) D S H) ∧ (∀ b, b ≠ A → a b = J b) ∧ ∀ z, z < 8 ^ (nG f + 1) → a A (piT (nG f) z) = if ok2 f z then -1 else -2 := by
    have key := iter_cnt (body := fun z : Int32 × Hp => F_X4_stoveTo_l31 50 (nI rm) 3 45 ((3 : Int32) * nI (nG f)) z.1 z.2) (s0 := (0, wI hx J)) (fun r z => ∃ a D S H, z = (nI r, wK (wI hx a) D S H) ∧ (∀ b, b ≠ A → a b = J b) ∧ ∀ z, z < 8 ^ (nG f + 1) → a A (piT (nG f) z) = if decide (z % 8 < r) && lQ f (z % 8) (z / 8) then -1 else -2) (fun x => ∃ a D S H, x = wK (wI hx a) D S H ∧ (∀ b, b ≠ A → a b = J b) ∧ ∀ z, z < 8 ^ (nG f + 1) → a A (piT (nG f) z) = if ok2 f z then -1 else -2) (nR f) (fun r z hr hI => ?_) (fun z hI => ?_) ⟨J, zI (wI hx J) 45, zI (wI hx J) 46, zI (wI hx J) 47, by rw [wK_0]; rfl, fun _ _ => rfl, fun z hz => ?_⟩ (FU_lt (by omega))
    · obtain ⟨x, hx2, a, D, S, H, hE, a1, a2⟩ := key
      exact ⟨a, D, S, H, by rw [hx2, hE], a1, a2⟩
    · obtain ⟨a, D, S, H, rfl, a1, a2⟩ := hI
      have ca := cJ a a1
      obtain ⟨D1, S1, H1, st, w⟩ := x_start (h := wK (wI hx a) D S H) (sK _ _ _ _) i (wK_c i ca) (q := r) (by omega)
      rw [wK_wK] at st
      have bs : r * 8 ^ nG f + 8 ^ nG f ≤ n := by
        have h1 : (r + 1) * 8 ^ nG f ≤ 8 * 8 ^ nG f := Nat.mul_le_mul_right _ (by omega)
        rw [Nat.add_mul, Nat.one_mul] at h1
        rw [Nat.pow_succ] at hn1
        omega
      have bn : r * 8 ^ nG f < 32768 := by omega
      obtain ⟨a', D2, S2, H2, eo, o1, o2, o3⟩ := x_openLevel sx i px hA hn2 (J := a) (fun b hb => cJ b (fun z hz => (hb z hz).trans (a1 z hz))) (q := r) (bs := r * 8 ^ nG f) bs w
      have e0 : zI (wK (wI hx a) D S H) 3 0 = nI (nR f) := (wK_c i ca).1.1.trans (iR i)
      refine ⟨(nI (r + 1), wK (wI hx a') D2 S2 H2), ?_, a', D2, S2, H2, rfl, fun b hb => (o1 b hb).trans (a1 b hb), fun z hz => ?_⟩
      · show F_X4_stoveTo_l31 50 (nI rm) 3 45 ((3 : Int32) * nI (nG f)) (nI r) (wK (wI hx a) D S H) = _
        unfold F_X4_stoveTo_l31
        rw [gd_d (k3 (sK _ _ _ _)), e0, if_neg (nI_ge hr (by omega)), st, ob2_s, gd_d (k45 (sK _ _ _ _)), shl3 hG (by omega), eo, ob2_s, gd_d (k50 (sK _ _ _ _)), nI_1]
      · have ez : piT (nG f) z = piS (nG f) (z / 8) + z % 8 * 8 ^ nG f := rfl
        have hd := div8 hz
        by_cases q : z % 8 = r
        · have e1 : piT (nG f) z = r * 8 ^ nG f + piS (nG f) (z / 8) := by rw [ez, q, Nat.add_comm]
          have e2 : decide (z % 8 < r + 1) = true := decide_eq_true (by omega)
          rw [e1, e2, Bool.true_and, q]
          cases l : lQ f r (z / 8) with
          | true =>
            rw [o2 _ hd hd l]
            rfl
          | false =>
            rw [o3 _ (fun y hy hl w => by
              have := pi_inj hd hy (by omega)
              rw [this] at l
              rw [l] at hl
              cases hl), ← e1, a2 z hz, decide_eq_false (show ¬ z % 8 < r by omega)]
            rfl
        · have e1 : a' A (piT (nG f) z) = a A (piT (nG f) z) := o3 _ (fun y hy hl w => by
            have hy2 : 8 * y + r < 8 ^ (nG f + 1) := mul8 hy (by omega)
            have := piT_inj hz hy2 (by rw [w, piT_mk (by omega), Nat.add_comm])
            omega)
          have e2 : decide (z % 8 < r + 1) = decide (z % 8 < r) := decide_eq_decide.mpr ⟨fun _ => by omega, fun _ => by omega⟩
          rw [e1, a2 z hz, e2]
    · obtain ⟨a, D, S, H, rfl, a1, a2⟩ := hI
      refine ⟨wK (wI hx a) D S H, ?_, a, D, S, H, rfl, a1, a2⟩
      show F_X4_stoveTo_l31 50 (nI rm) 3 45 ((3 : Int32) * nI (nG f)) (nI (nR f)) (wK (wI hx a) D S H) = _
      have e0 : zI (wK (wI hx a) D S H) 3 0 = nI (nR f) := (wK_c i (cJ a a1)).1.1.trans (iR i)
      unfold F_X4_stoveTo_l31
      rw [gd_d (k3 (sK _ _ _ _)), e0, if_pos (Int32.le_refl _)]
    · rw [jA _ piT_lt, decide_eq_false (Nat.not_lt_zero _)]
      rfl
  obtain ⟨a, D, S, H, el, a1, hfar⟩ := l31
  generalize hhb : wK (wI hx a) D S H = hb at *
  have sb : Sh hb := by
    rw [← hhb]
    exact sx
  have cb : HR (zI hb) 3 f := by
    rw [← hhb]
    exact wK_c i (cJ a a1)
  have aq : aQ hb A Q n := by
    rw [← hhb]
    exact ⟨hA, hQ, px.2.2.2.2.2.2.1, hn2, px.1, px.2.1, px.2.2.1, px.2.2.2.1, px.2.2.2.2.1, px.2.2.2.2.2.1⟩
  have zA : zI hb A = a A := by
    rw [← hhb]
    exact wK_I (by omega)
  have zc : zI hb 50 2 = 0 := by
    rw [← hhb, wK_I (by omega), a1 50 (by omega), j50]
  have jK : ∀ b, b ≠ A → (b < 45 ∨ 47 < b) → b ≠ 50 → zI hb b = zI hx b := fun b h1 h2 h3 => by
    rw [← hhb, wK_I h2, a1 b h1, jo b h1 h3]
  have eb : ∃ Jb, hb = wI hx Jb := ⟨zI hb, by rw [← hhb]; rfl⟩
  have aqc : ∀ Fa Qa c, aQ (cB hb A Q Fa Qa c) A Q n := fun _ _ _ => aq
  have sc : ∀ Fa Qa c, Sh (cB hb A Q Fa Qa c) := fun _ _ _ => sb
  have eas : F_X2_asNumber 3 9 hb = some (nI (piS (nG f) (ordS (sit f) (nG f)))) := by
    rw [x_asNumber sb i cb (k9 sb) (l9 sb) (seat9 i cb), eF]
  have e11 : zI hb 3 11 = nI (sR f) := (e_sR i cb).1
  have e5 : zI h 3 5 = nI (nG f) := c.1.2.1.trans (iG i)
  have e11h : zI h 3 11 = nI (sR f) := (e_sR i c).1
  have efrom : nI (piS (nG f) (ordS (sit f) (nG f))) + (nI (sR f) <<< (((3 : Int32) * nI (nG f)) &&& 31)) = nI (piT (nG f) (stT f)) := by
    rw [shl3 hG (by omega), nadd, eT]
  have er : F_X4_reach 50 (nI (piT (nG f) (stT f))) 0 (setI hb A (piT (nG f) (stT f)) (-1)) = some ((), cB hb A Q (va_up (va_up (a A) (piT (nG f) (stT f)) (-1)) (piT (nG f) (stT f)) 0) (va_up (zI hb Q) 0 (nI (piT (nG f) (stT f)))) 1) := by
    have e1 : setI hb A (piT (nG f) (stT f)) (-1) = cB hb A Q (va_up (a A) (piT (nG f) (stT f)) (-1)) (zI hb Q) 0 := by
      have := cB_wA aq (Fa := zI hb A) (Qa := zI hb Q) (c := zI hb 50 2) (k := piT (nG f) (stT f)) (v := -1)
      rw [cB_id aq, zc, zA] at this
      exact this
    rw [e1]
    unfold F_X4_reach F_X4_reach_b0 F_X4_reach_b49
    rw [gd_d (k50 (sc _ _ _)), (aqc _ _ _).2.2.2.2.1, ob_s, gd_d (aqc _ _ _).2.2.2.2.2.2.1, (aqc _ _ _).2.2.2.2.2.2.2.2.1, ix_t (by omega) (by omega), gd_t, ncl (by omega), cB_A aq, va_e, if_pos rfl, (aqc _ _ _).2.2.2.2.2.1, ob_s, gd_d (aqc _ _ _).2.2.2.2.2.2.2.1, (aqc _ _ _).2.2.2.2.2.2.2.2.2, cB_c]
    show (if nI n ≤ nI 0 then _ else _) = _
    rw [if_neg (nI_ge (by have := p8p (nG f + 1); omega) (by omega)), ob_s, gd_d (aqc _ _ _).2.2.2.2.2.2.1, (aqc _ _ _).2.2.2.2.2.2.2.2.1, ix_t (by omega) (by omega), gd_t, cB_wA aq, (aqc _ _ _).2.2.2.2.2.1, ob_s, gd_d (aqc _ _ _).2.2.2.2.2.2.2.1, (aqc _ _ _).2.2.2.2.2.2.2.2.2, cB_c, nl_0, ix_t (by have := p8p (nG f + 1); omega) (by omega), gd_t, ob_s, ncl (by omega), cB_wQ aq, cB_c, cB_wc]
    rfl
  have b0 : cR (piT (nG f)) (8 ^ (nG f + 1)) (ok2 f) (bIn (stT f)) (va_up (va_up (a A) (piT (nG f) (stT f)) (-1)) (piT (nG f) (stT f)) 0) (va_up (zI hb Q) 0 (nI (piT (nG f) (stT f)))) := by
    constructor
    · intro y hy
      show _ = fc (va_up (fun _ => none) (stT f) (some 0) y) _
      by_cases e : y = stT f
      · rw [e, va_e, va_e]
        rfl
      · have ne : piT (nG f) y ≠ piT (nG f) (stT f) := fun q => e (piT_inj hy hT q)
        rw [va_n _ _ _ _ ne, va_n _ _ _ _ ne, va_n _ _ _ _ e, hfar y hy]
        rfl
    · intro j hj
      have : j < 1 := hj
      have : j = 0 := by omega
      subst this
      rw [va_e]
      rfl
  obtain ⟨ans, Fa, Qa, cc, x, se, lp, xx⟩ := x_stoveL sb i cb aq hG hn1 hT (show rm < 8 by omega) b0
  obtain ⟨Jb, rfl⟩ := eb
  have fin : F_X4_stoveTo 50 (nI rm) 3 45 h = some (ans, wI hx (zI (cB (wI hx Jb) A Q Fa Qa cc)), 0 + c0, 0 + sl) := by
    unfold F_X4_stoveTo F_X4_stoveTo_b0
    rw [gd_d (k3 s), e11h, if_neg (fun z => hne ((nI_eq (by omega) (by omega)).mp z)), e5, nI_1, esh, ob4_s, gd_d (k50 s), el, ob_s, gd_d (k3 sb), r3_7 sb, ob_s, eas, ob_s, gd_d (k50 sb), aq.2.2.2.2.1, ob_s, gd_d aq.2.2.2.2.2.2.1, aq.2.2.2.2.2.2.2.2.1, e11, efrom]
    show ac c0 sl (if nI (piT (nG f) (stT f)) < nI n then _ else _) = _
    rw [if_pos (nI_lt (by omega) (by omega)), ob_s, gd_d aq.2.2.2.2.2.2.1, aq.2.2.2.2.2.2.2.2.1, ix_t (by omega) (by omega), gd_t, ncl (by omega), er, ob2_s, lp, ob_s]
    unfold F_X4_stoveTo_b179
    rcases xx with ⟨rfl, rfl⟩ | ⟨w, hw, rfl, hv⟩
    · rw [sm_l, ac_s]
      rfl
    · rw [sm_r]
      show ac c0 sl (gd (decide (kd (cB (wI hx Jb) A Q Fa Qa cc) 50 = 4)) (ob (zR (cB (wI hx Jb) A Q Fa Qa cc) 50 0) fun q59 => gd (decide (kd (cB (wI hx Jb) A Q Fa Qa cc) q59 = 13)) (gd (ix (nI w) (zl (cB (wI hx Jb) A Q Fa Qa cc) q59)) (some (zI (cB (wI hx Jb) A Q Fa Qa cc) q59 (nI w).toNatClampNeg, cB (wI hx Jb) A Q Fa Qa cc, 0, 0))))) = _
      rw [gd_d (k50 (sc _ _ _)), (aqc _ _ _).2.2.2.2.1, ob_s, gd_d (aqc _ _ _).2.2.2.2.2.2.1, (aqc _ _ _).2.2.2.2.2.2.2.2.1, ix_t hw (by omega), gd_t, ncl (by omega), cB_A aq, hv, ac_s]
      rfl
  refine ⟨hx, _, A, Q, n, 0 + c0, 0 + sl, ans, fin, ⟨gx, px, hn1, hn2, hA, hQ, lo, fun b h1 h2 h3 h4 => ?_⟩, by omega, by omega, se⟩
  rw [cB_o h1 h2 h4, jK b h1 h3 h4]
end STOVED
