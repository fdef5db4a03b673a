/-! BELLS: both searches tell the same -/
theorem rep_back (y k r : Nat) (hr : r < 8) : rep (rep y k r) k (nd y k) = y := by
  have h1 := rep_sum y k r
  have h2 := rep_sum (rep y k r) k (nd y k)
  have h3 : nd (rep y k r) k = r := by rw [nd_rep hr, if_pos rfl]
  rw [h3] at h2
  omega
section BELLJ
variable {h : Hp} {f : Nat → Int32}
theorem lI_dg {y : Nat} (l : lI f y = true) : ∀ g, g < nG f → dg (nG f) y g < nR f := by
  unfold lI at l
  rw [Bool.and_eq_true] at l
  exact fun g hg => (vS_iff.mp l.1 g hg).1
theorem nb_sym (i : Inv f) : ∀ x p, (lI f x = true ∨ x = ordS (sit f) (nG f)) → lI f p = true → (x ∈ nbB f p ↔ p ∈ nbB f x) := by
  intro x p hx hp
  have r8 := iR8 i
  have dx : ∀ g, g < nG f → dg (nG f) x g < nR f := by
    rcases hx with hx | rfl
    · exact lI_dg hx
    · intro g hg
      rw [dg_ord (sit8 i) g hg]
      exact (igs i g hg).2.2
  constructor
  · intro hm
    obtain ⟨g, hg, r, hr, rfl⟩ := mem_nbB.mp hm
    exact mem_nbB.mpr ⟨g, hg, dg (nG f) p g, lI_dg hp g hg, (rep_back p (nG f - 1 - g) r (by omega)).symm⟩
  · intro hm
    obtain ⟨g, hg, r, hr, rfl⟩ := mem_nbB.mp hm
    exact mem_nbB.mpr ⟨g, hg, dg (nG f) x g, dx g hg, (rep_back x (nG f - 1 - g) r (by omega)).symm⟩
def pC (f : Nat → Int32) (C : Nat → Option Nat) (x L g r : Nat) : Bool := decide (C (nbr (nG f) x g r) = some L)
theorem be_no (i : Inv f) {T : Nat} (hT : T < 8 ^ nG f) (l : lI f T = true) (hTF : ordS (sit f) (nG f) ≠ T) {S : BS} (be : blE f T (ordS (sit f) (nG f)) S none) {fr : Nat → Option Nat} (of : frO f T fr) : lefB f fr T = none := by
  have nbl : ∀ x y, x < 8 ^ nG f → y ∈ nbB f x → y < 8 ^ nG f := fun x y hx hy => nbB_lt i hx hy
  rcases of with ⟨l2, -⟩ | ⟨-, K, hK, rfl⟩
  · rw [l] at l2
    cases l2
  · obtain ⟨j, rfl, ⟨-, q2, q3⟩ | ⟨k, D, q1, -⟩⟩ := be
    · unfold lefB
      rw [if_neg hTF]
      exact ls_no _ (fun o ho => two_no hT nbl l (nb_sym i) q2 q3 hK ho)
    · cases q1
theorem be_yes (i : Inv f) {T D : Nat} (hT : T < 8 ^ nG f) (l : lI f T = true) (hTF : ordS (sit f) (nG f) ≠ T) {S : BS} (be : blE f T (ordS (sit f) (nG f)) S (some D)) {fr : Nat → Option Nat} (of : frO f T fr) : lefB f fr T = some D ∧ S.1 (ordS (sit f) (nG f)) = some D ∧ ∀ t, t < D → S.1 (bp f fr D (ordS (sit f) (nG f)) t) = some (D - t) ∧ fbL (pC f S.1 (bp f fr D (ordS (sit f) (nG f)) t) (D - t - 1)) (nR f) (nG f) = bl f fr D (ordS (sit f) (nG f)) t ∧ ∃ c L, bl f fr D (ordS (sit f) (nG f)) t = c :: L := by
  have nbl : ∀ x y, x < 8 ^ nG f → y ∈ nbB f x → y < 8 ^ nG f := fun x y hx hy => nbB_lt i hx hy
  rcases of with ⟨l2, -⟩ | ⟨-, K, hK, rfl⟩
  · rw [l] at l2
    cases l2
  · obtain ⟨j, rfl, ⟨q1, -⟩ | ⟨k, D', q1, rfl, q3, q4, q5⟩⟩ := be
    · cases q1
    · cases q1
      obtain ⟨b1, b2, b3, b4, b5⟩ := two_yes hT nbl l (nb_sym i) q3 q4 q5 hK
      have bx : ∀ t, t < D → (bRun (okF (lI f) (ordS (sit f) (nG f))) (nbB f) T (k + 1)).1 (bp f (bRun (lI f) (nbB f) T K).1 D (ordS (sit f) (nG f)) t) = some (D - t) → fbL (pC f (bRun (okF (lI f) (ordS (sit f) (nG f))) (nbB f) T (k + 1)).1 (bp f (bRun (lI f) (nbB f) T K).1 D (ordS (sit f) (nG f)) t) (D - t - 1)) (nR f) (nG f) = bl f (bRun (lI f) (nbB f) T K).1 D (ordS (sit f) (nG f)) t ∧ ∃ c L, bl f (bRun (lI f) (nbB f) T K).1 D (ordS (sit f) (nG f)) t = c :: L := by
        intro t ht hc
        have e : fbL (pC f (bRun (okF (lI f) (ordS (sit f) (nG f))) (nbB f) T (k + 1)).1 (bp f (bRun (lI f) (nbB f) T K).1 D (ordS (sit f) (nG f)) t) (D - t - 1)) (nR f) (nG f) = bl f (bRun (lI f) (nbB f) T K).1 D (ordS (sit f) (nG f)) t := by
          refine fbL_congr (fun g r hg hr => ?_)
          unfold pC pR
          have e4 := b4 (D - t - 1) (nbr (nG f) (bp f (bRun (lI f) (nbB f) T K).1 D (ordS (sit f) (nG f)) t) g r) (by omega)
          by_cases z : nbr (nG f) (bp f (bRun (lI f) (nbB f) T K).1 D (ordS (sit f) (nG f)) t) g r = bp f (bRun (lI f) (nbB f) T K).1 D (ordS (sit f) (nG f)) t
          · rw [decide_eq_true z, z, hc]
            have : ¬ some (D - t) = some (D - t - 1) := fun w => by
              have := Option.some.inj w
              omega
            rw [decide_eq_false this]
            rfl
          · rw [decide_eq_false z, Bool.not_false, Bool.true_and]
            exact decide_eq_decide.mpr e4
        refine ⟨e, ?_⟩
        obtain ⟨o, ho1, ho2⟩ := b5 _ (D - t - 1) (by omega) (by rw [hc]; congr 1; omega)
        obtain ⟨g, hg, r, hr, rfl⟩ := mem_nbB.mp ho1
        have m : 8 * g + r ∈ bl f (bRun (lI f) (nbB f) T K).1 D (ordS (sit f) (nG f)) t := by
          rw [← e]
          exact mem_fbL.mpr ⟨g, hg, r, hr, decide_eq_true ho2, rfl⟩
        cases c : bl f (bRun (lI f) (nbB f) T K).1 D (ordS (sit f) (nG f)) t with
        | nil =>
          rw [c] at m
          cases m
        | cons a L => exact ⟨a, L, rfl⟩
      have pa : ∀ t, t < D → (bRun (okF (lI f) (ordS (sit f) (nG f))) (nbB f) T (k + 1)).1 (bp f (bRun (lI f) (nbB f) T K).1 D (ordS (sit f) (nG f)) t) = some (D - t) := by
        intro t
        induction t with
        | zero => exact fun _ => q5
        | succ t ih =>
          intro ht
          have hc := ih (by omega)
          obtain ⟨e, c, L, ec⟩ := bx t (by omega) hc
          obtain ⟨g, r, hg, hr, e1, e2, e3, -⟩ := bl_c i ec
          have m : c ∈ fbL (pC f (bRun (okF (lI f) (ordS (sit f) (nG f))) (nbB f) T (k + 1)).1 (bp f (bRun (lI f) (nbB f) T K).1 D (ordS (sit f) (nG f)) t) (D - t - 1)) (nR f) (nG f) := by
            rw [e, ec]
            simp
          obtain ⟨g', hg', r', hr', p, rfl⟩ := mem_fbL.mp m
          have r8 := iR8 i
          have p' := of_decide_eq_true p
          rw [bp_s, ec]
          show (bRun (okF (lI f) (ordS (sit f) (nG f))) (nbB f) T (k + 1)).1 (nbr (nG f) (bp f (bRun (lI f) (nbB f) T K).1 D (ordS (sit f) (nG f)) t) ((8 * g' + r') / 8) ((8 * g' + r') % 8)) = _
          rw [show (8 * g' + r') / 8 = g' by omega, show (8 * g' + r') % 8 = r' by omega, p']
          congr 1
      refine ⟨?_, q5, fun t ht => ⟨pa t ht, bx t ht (pa t ht)⟩⟩
      unfold lefB
      rw [if_neg hTF]
      exact ls_hit b1 _ (fun x hx => by cases hx) (fun o ho _ d hd => b2 o d ho hd) b3
/-- the class's first bell -/
theorem x_firstBell (s : Sh h) (i : Inv f) (c : HR (zI h) 3 f) {A n : Nat} (rA : zR h 50 0 = some A) (kA : kd h A = 13) (lA : zl h A = n) (hn1 : 8 ^ nG f ≤ n) (hn2 : n ≤ 32768) {C : Nat → Option Nat} {ok : Nat → Bool} (hC : ∀ y, y < 8 ^ nG f → zI h A (piS (nG f) y) = fc (C y) (ok y)) (hb : ∀ y d, C y = some d → d < 32768) {x L : Nat} (hx : x < 8 ^ nG f) (hL : C x = some (L + 1)) : F_X4_firstBell 50 (nI (piS (nG f) x)) 3 h = some (hdN (fbL (pC f C x L) (nR f) (nG f))) := by
  have r8 := iR8 i
  have g5 := iG5 i
  have p8 := pow8 g5
  have er : zI h 3 0 = nI (nR f) := c.1.1.trans (iR i)
  have eg : zI h 3 5 = nI (nG f) := c.1.2.1.trans (iG i)
  have px := piS_lt (nG f) x
  have hLb := hb x _ hL
  unfold F_X4_firstBell F_X4_firstBell_b0
  refine scan2 (P := pC f C x L) r8 g5 (b1 := fun g z => F_X4_firstBell_l13 50 (nI (piS (nG f) x)) 3 g z h) (b2 := fun z => F_X4_firstBell_l2 50 (nI (piS (nG f) x)) 3 z h) (fun g r hg hr => ?_) (fun g hg => ?_) (fun g hg => ?_) ?_
  · have hy : nbr (nG f) x g r < 8 ^ nG f := nbr_lt hx hg (by omega)
    have ep : pC f C x L g r = decide (C (nbr (nG f) x g r) = some L) := rfl
    have ey := pi_nbr (n := nG f) (y := x) hg (show r < 8 by omega)
    have py := piS_lt (nG f) (nbr (nG f) x g r)
    have es : F_X4_sent (nI (piS (nG f) x)) (nI g) (nI r) h = some (nI (piS (nG f) (nbr (nG f) x g r))) := by
      rw [ey]
      exact x_sent (by omega) (by omega) (by omega)
    show F_X4_firstBell_l13 50 (nI (piS (nG f) x)) 3 (nI g) (nI r) h = _
    unfold F_X4_firstBell_l13 F_X4_firstBell_b67
    rw [gd_d (k3 s), er, if_neg (nI_ge hr (by omega)), es, ob_s, ep, gd_d (k50 s), rA, ob_s, gd_d kA, lA, ix_t (by omega) (by omega), gd_t, ncl (by omega), hC _ hy, ob_s, gd_d kA, lA, ix_t (by omega) (by omega), gd_t, ob_s, gd_d kA, lA, ix_t (by omega) (by omega), gd_t, ncl (by omega), hC _ hy, hC _ hx, hL, nI_1]
    show (if fc (C (nbr (nG f) x g r)) (ok (nbr (nG f) x g r)) < 0 then _ else if fc (C (nbr (nG f) x g r)) (ok (nbr (nG f) x g r)) = nI (L + 1) - 1 then _ else _) = _
    rw [nI_pred]
    cases d : C (nbr (nG f) x g r) with
    | none =>
      have : fc none (ok (nbr (nG f) x g r)) < 0 := by cases ok (nbr (nG f) x g r) <;> decide
      rw [if_pos this]
      rfl
    | some e =>
      have he := hb _ _ d
      rw [if_neg (show ¬ fc (some e) (ok (nbr (nG f) x g r)) < 0 from nI_pos (by omega))]
      by_cases q : e = L
      · subst q
        rw [if_pos (show fc (some e) (ok (nbr (nG f) x g r)) = nI e from rfl), decide_eq_true rfl]
        rfl
      · rw [if_neg (show ¬ fc (some e) (ok (nbr (nG f) x g r)) = nI L from fun z => q ((nI_eq (by omega) (by omega)).mp z)), decide_eq_false (fun z => q (Option.some.inj z))]
        rfl
  · show F_X4_firstBell_l13 50 (nI (piS (nG f) x)) 3 (nI g) (nI (nR f)) h = _
    unfold F_X4_firstBell_l13
    rw [gd_d (k3 s), er, if_pos (Int32.le_refl _)]
  · show F_X4_firstBell_l2 50 (nI (piS (nG f) x)) 3 (nI g) h = _
    unfold F_X4_firstBell_l2
    rw [gd_d (k3 s), eg, if_neg (nI_ge hg (by omega))]
  · show F_X4_firstBell_l2 50 (nI (piS (nG f) x)) 3 (nI (nG f)) h = _
    unfold F_X4_firstBell_l2
    rw [gd_d (k3 s), eg, if_pos (Int32.le_refl _)]
/-- the class's walk by bells -/
theorem x_bellAt (s : Sh h) (i : Inv f) (c : HR (zI h) 3 f) {A n : Nat} (rA : zR h 50 0 = some A) (kA : kd h A = 13) (lA : zl h A = n) (hn1 : 8 ^ nG f ≤ n) (hn2 : n ≤ 32768) {C : Nat → Option Nat} {ok : Nat → Bool} (hC : ∀ y, y < 8 ^ nG f → zI h A (piS (nG f) y) = fc (C y) (ok y)) (hb : ∀ y d, C y = some d → d < 32768) {fr : Nat → Option Nat} {D k : Nat} (hk : k < D) (hD : D ≤ 32768) (pa : ∀ t, t < D → C (bp f fr D (ordS (sit f) (nG f)) t) = some (D - t) ∧ fbL (pC f C (bp f fr D (ordS (sit f) (nG f)) t) (D - t - 1)) (nR f) (nG f) = bl f fr D (ordS (sit f) (nG f)) t ∧ ∃ c L, bl f fr D (ordS (sit f) (nG f)) t = c :: L) : F_X4_bellAt 50 (nI k) 3 h = some (hdN (bl f fr D (ordS (sit f) (nG f)) k)) := by
  have p8 := pow8 (iG5 i)
  have g5 := iG5 i
  have r8 := iR8 i
  have hF : ordS (sit f) (nG f) < 8 ^ nG f := ordS_lt (sit8 i)
  have eF : numS (sit f) (nG f) = piS (nG f) (ordS (sit f) (nG f)) := (pi_ord (sit8 i)).symm
  unfold F_X4_bellAt F_X4_bellAt_b0
  rw [gd_d (k3 s), r3_7 s, ob_s, x_asNumber s i c (k9 s) (l9 s) (seat9 i c), ob_s, eF]
  refine (ob_p (iter_at (fun t => (nI (piS (nG f) (bp f fr D (ordS (sit f) (nG f)) t)), if t = 0 then -1 else hdN (bl f fr D (ordS (sit f) (nG f)) (t - 1)), nI t)) (k + 1) (.inl (hdN (bl f fr D (ordS (sit f) (nG f)) k))) rfl (fun t ht => ?_) ?_ (FU_lt (by omega))) _).trans ?_
  · show F_X4_bellAt_l15 50 (nI k) 3 (nI (piS (nG f) (bp f fr D (ordS (sit f) (nG f)) t))) _ (nI t) h = _
    obtain ⟨p1, p2, cc, L, e⟩ := pa t (by omega)
    obtain ⟨g, r, hg, hr, e1, e2, e3, -⟩ := bl_c i e
    have hx := bp_lt (fr := fr) (D := D) i hF t (fun j hj => (pa j (by omega)).2.2)
    have px := piS_lt (nG f) (bp f fr D (ordS (sit f) (nG f)) t)
    have ef : F_X4_firstBell 50 (nI (piS (nG f) (bp f fr D (ordS (sit f) (nG f)) t))) 3 h = some (nI cc) := by
      rw [x_firstBell s i c rA kA lA hn1 hn2 hC hb hx (L := D - t - 1) (by rw [p1]; congr 1; omega), p2, e]
      rfl
    unfold F_X4_bellAt_l15
    rw [if_neg (nI_nlt (by omega) (by omega)), nl_32768, if_neg (nI_ge (show t < 32768 by omega) (by omega)), ef, ob_s, gd_d (k50 s), if_neg (neg1_nI (by omega)), nl_8, pk_rem (by omega) (by omega) (by omega), pk_div (by omega) (by omega) (by omega), e1, e2, x_sent (by omega) (by omega) (by omega), ob_s, nI_1, bp_s, e]
    show some (Sum.inl (nI (rep (piS (nG f) (bp f fr D (ordS (sit f) (nG f)) t)) g r), nI cc, nI (t + 1))) = some (Sum.inl (nI (piS (nG f) (nbr (nG f) (bp f fr D (ordS (sit f) (nG f)) t) (cc / 8) (cc % 8))), hdN (bl f fr D (ordS (sit f) (nG f)) t), nI (t + 1)))
    rw [e, e1, e2, pi_nbr hg (by omega)]
    rfl
  · show F_X4_bellAt_l15 50 (nI k) 3 _ (hdN (bl f fr D (ordS (sit f) (nG f)) k)) (nI (k + 1)) h = _
    unfold F_X4_bellAt_l15
    rw [if_pos (nI_lt (by omega) (by omega))]
  · rfl
end BELLJ
