/-! THE CALL bells -/
section BELLS
variable {h : Hp} {f : Nat → Int32}
theorem shr3 {j y : Nat} (hj : j < 5) (hy : y < 32768) : (nI y >>> (((3 : Int32) * nI j) &&& 31)) &&& (7 : Int32) = nI (nd y j) := by
  have hd : ∀ k, y / 2 ^ k ≤ y := fun k => Nat.div_le_self _ _
  have a : ∀ z, z < 2 ^ 32 → nI z &&& (7 : Int32) = nI (z % 8) := fun z hz => pk_andN hz 3 (by decide)
  have e8 : 8 ^ j = 2 ^ (3 * j) := by rw [Nat.pow_mul]
  have e : nI y >>> (((3 : Int32) * nI j) &&& 31) = nI (y / 2 ^ (3 * j)) := by
    have : j = 0 ∨ j = 1 ∨ j = 2 ∨ j = 3 ∨ j = 4 := by omega
    rcases this with rfl | rfl | rfl | rfl | rfl
    · exact pk_shrN (by omega) _ 0 (by decide)
    · exact pk_shrN (by omega) _ 3 (by decide)
    · exact pk_shrN (by omega) _ 6 (by decide)
    · exact pk_shrN (by omega) _ 9 (by decide)
    · exact pk_shrN (by omega) _ 12 (by decide)
  have := hd (3 * j)
  rw [e, a _ (by omega)]
  unfold nd
  rw [e8]
theorem sh1' {m : Nat} (hm : m ≤ 5) : (1 : Int32) <<< (((3 : Int32) * nI m) &&& 31) = nI (8 ^ m) := by
  have : m = 0 ∨ m = 1 ∨ m = 2 ∨ m = 3 ∨ m = 4 ∨ m = 5 := by omega
  rcases this with rfl | rfl | rfl | rfl | rfl | rfl <;> decide
theorem x_headsOf (s : Sh h) (i : Inv f) (c : HR (zI h) 3 f) {y r : Nat} (hy : y < 32768) (hr : r < 8) : F_X2_headsOf 3 (nI y) (nI r) h = some (nI (hdS (nd y) (nG f) r)) := by
  have g5 := iG5 i
  unfold F_X2_headsOf F_X2_headsOf_b0
  refine ob_p (iter_run (fun j => (nI (hdS (nd y) j r), nI j)) (nG f) _ (fun j hj => ?_) ?_ (FU_lt (by omega))) _
  · show F_X2_headsOf_l5 3 (nI y) (nI r) (nI (hdS (nd y) j r)) (nI j) h = _
    have nl := nd_lt y j
    unfold F_X2_headsOf_l5 F_X2_headsOf_b30
    rw [gd_d (k3 s), c.1.2.1, iG i, if_neg (nI_ge hj (by omega)), shr3 (by omega) hy, nI_1, nI_1, hdS_s]
    by_cases q : nd y j = r
    · rw [if_pos (by rw [q]), if_pos q]
    · rw [if_neg (fun z => q ((nI_eq (by omega) (by omega)).mp z)), if_neg q]
      rfl
  · show F_X2_headsOf_l5 3 (nI y) (nI r) _ (nI (nG f)) h = _
    unfold F_X2_headsOf_l5
    rw [gd_d (k3 s), c.1.2.1, ← iG i, if_pos (Int32.le_refl _)]
theorem x_isSeating (s : Sh h) (i : Inv f) (c : HR (zI h) 3 f) (v : Int32) : (isIn v (8 ^ nG f) = false → F_X2_isSeating 3 v h = some 0) ∧ (∀ y, v = nI y → y < 8 ^ nG f → F_X2_isSeating 3 v h = some (b2 (vS f (nd y)))) := by
  have g5 := iG5 i
  have r8 := iR8 i
  have p8 := pow8 g5
  have e5 : zI h 3 5 = nI (nG f) := c.1.2.1.trans (iG i)
  have e0 : zI h 3 0 = nI (nR f) := c.1.1.trans (iR i)
  constructor
  · intro q
    unfold F_X2_isSeating F_X2_isSeating_b0 F_X2_isSeating_b16
    by_cases h1 : v < 0
    · rw [if_pos h1]
    · rw [if_neg h1, gd_d (k3 s), e5, sh1' g5]
      obtain ⟨j, hj, rfl⟩ := nI_of h1
      have : ¬ j < 8 ^ nG f := fun z => by
        rw [isIn_nI z (by omega)] at q
        cases q
      rw [if_neg (nI_nlt (by omega) hj)]
  · rintro y rfl hy
    have key := iter_ex (body := fun z : Int32 => F_X2_isSeating_l20 3 (nI y) z h) (fun u z => ∃ g, z = nI g ∧ u = nG f - g ∧ g ≤ nG f ∧ ∀ k, k < g → nd y k < nR f ∧ hdS (nd y) (nG f) (nd y k) ≤ bd f (nd y k)) (fun x => (x = .inl () ∧ vS f (nd y) = true) ∨ (x = .inr () ∧ vS f (nd y) = false)) (fun u z hI => by
      obtain ⟨g, rfl, rfl, hg, ok⟩ := hI
      by_cases p : g = nG f
      · left
        refine ⟨.inl (), ?_, Or.inl ⟨rfl, vS_iff.mpr (by rw [← p] at ok ⊢; rw [p]; rw [p] at ok; exact ok)⟩⟩
        unfold F_X2_isSeating_l20
        rw [gd_d (k3 s), e5, if_pos (nI_le (by omega) (by omega))]
      · have nl := nd_lt y g
        have hh := hdS_le (nd y) (nG f) (nd y g)
        by_cases q : nd y g < nR f
        · have hb := bd_eq i q
          have e6 : zI h 6 (nd y g) = nI (bd f (nd y g)) := ((c.2.1 _ nl).2.2.1).trans hb.1
          have est : F_X2_isSeating_l20 3 (nI y) (nI g) h = if hdS (nd y) (nG f) (nd y g) ≤ bd f (nd y g) then some (.inl (nI (g + 1))) else some (.inr (.inr ())) := by
            unfold F_X2_isSeating_l20
            rw [gd_d (k3 s), e5, if_neg (nI_ge (show g < nG f by omega) (by omega)), e0, shr3 (by omega) (by omega), if_neg (nI_ge q (by omega)), x_headsOf s i c (by omega) nl, ob_s, r3_3 s, ob_s, gd_d (k6 s), l6 s, ix_t nl (by omega), gd_t, ncl (by omega), e6, nI_1]
            by_cases w : hdS (nd y) (nG f) (nd y g) ≤ bd f (nd y g)
            · rw [if_pos w, if_pos (nI_le w (by omega))]
            · rw [if_neg w, if_neg (nI_ge (by omega) (by omega))]
          by_cases w : hdS (nd y) (nG f) (nd y g) ≤ bd f (nd y g)
          · right
            rw [if_pos w] at est
            refine ⟨_, nG f - (g + 1), by omega, est, g + 1, rfl, rfl, by omega, fun k hk => ?_⟩
            by_cases e : k = g
            · subst e
              exact ⟨q, w⟩
            · exact ok k (by omega)
          · left
            rw [if_neg w] at est
            exact ⟨_, est, Or.inr ⟨rfl, decide_eq_false (fun z => w (z g (by omega)).2)⟩⟩
        · left
          refine ⟨.inr (), ?_, Or.inr ⟨rfl, decide_eq_false (fun z => q (z g (by omega)).1)⟩⟩
          unfold F_X2_isSeating_l20
          rw [gd_d (k3 s), e5, if_neg (nI_ge (show g < nG f by omega) (by omega)), e0, shr3 (by omega) (by omega), if_pos (nI_le (by omega) (by omega))]) FU (nG f) (nI 0) (FU_lt (by omega)) ⟨0, rfl, by omega, Nat.zero_le _, fun k hk => absurd hk (by omega)⟩
    obtain ⟨x, hx, hE⟩ := key
    unfold F_X2_isSeating F_X2_isSeating_b0
    rw [if_neg (nI_pos (by omega)), gd_d (k3 s), e5, sh1' g5, if_pos (nI_lt hy (by omega))]
    refine (ob_p hx _).trans ?_
    rcases hE with ⟨rfl, e⟩ | ⟨rfl, e⟩
    · rw [e]
      rfl
    · rw [e]
      rfl
theorem pi_nd (i : Inv f) {y : Nat} (hy : y < 8 ^ nG f) : piS (nG f) (ordS (nd y) (nG f)) = y := by
  rw [pi_ord (fun g _ => nd_lt _ _), num_mod, Nat.mod_eq_of_lt hy]
def allR (f : Nat → Int32) (T : Nat) (k : Int32) (out : Int32) : Prop := ∀ fr, frO f T fr → exB f fr T ∧ beV f fr T k = out
/-- the class, once it is known where to -/
theorem x_bell62 (g : GS h) (e60 : zI h 60 = f) {T : Nat} (hT : T < 8 ^ nG f) {k : Int32} (hk : -1 ≤ k) : ∃ hx J A Q n c sl out, F_X11_bells_b62 0 k (nI (piS (nG f) T)) h = some (.inl out, wI hx J, c, sl) ∧ paO h hx J A Q n 0 ∧ c + potC hx ≤ potC h ∧ sl + potS hx ≤ potS h ∧ allR f T k out ∨ (F_X11_bells_b62 0 k (nI (piS (nG f) T)) h = some (.inl out, h, 0, 0) ∧ allR f T k out) := by
  obtain ⟨s, i, c, -⟩ := id g
  rw [e60] at i c
  have g5 := iG5 i
  have p8 := pow8 g5
  have pT := piS_lt (nG f) T
  have hF : ordS (sit f) (nG f) < 8 ^ nG f := ordS_lt (sit8 i)
  have eF : numS (sit f) (nG f) = piS (nG f) (ordS (sit f) (nG f)) := (pi_ord (sit8 i)).symm
  have r07' : zR h 0 7 = some 50 := by have s' := s; unfold Sh at s'; simp only [s']
  have pos : ∀ {z : Int32}, -1 ≤ z → ¬ z = -1 → ∃ j, j < 2 ^ 31 ∧ z = nI j := fun {z} h1 h2 => by
    have : ¬ z < 0 := by
      intro w
      rw [fa_lt] at w
      rw [fa_le] at h1
      have z1 : (-1 : Int32).toInt = -1 := rfl
      have z0 : (0 : Int32).toInt = 0 := rfl
      exact h2 ((fa_eq _ _).mpr (by omega))
    exact nI_of this
  by_cases hTF : ordS (sit f) (nG f) = T
  · have ebt : F_X4_bellsTo 50 (nI (piS (nG f) T)) 3 45 h = some (0, h, 0, 0) := by
      unfold F_X4_bellsTo F_X4_bellsTo_b0
      rw [gd_d (k3 s), r3_7 s, ob_s, x_asNumber s i c (k9 s) (l9 s) (seat9 i c), ob_s, eF, hTF, if_pos rfl]
    have el : ∀ fr, lefB f fr T = some 0 := fun fr => by
      unfold lefB
      rw [if_pos hTF]
    refine ⟨h, zI h, 0, 0, 0, 0, 0, if k = -1 then 0 else -1, Or.inr ⟨?_, fun fr _ => ⟨fun D hD j hj => ?_, ?_⟩⟩⟩
    · unfold F_X11_bells_b62 F_X11_bells_b117
      rw [if_neg (neg1_nI (by omega)), gd_d (k0 s), r07', ob_s, r0_1 s, ob_s, r0_5 s, ob_s, ebt, ob4_s, gd_d (k50 s)]
      by_cases q : k = -1
      · rw [if_pos q, if_pos q]
        rfl
      · obtain ⟨j, hj, rfl⟩ := pos hk q
        rw [if_neg q, if_neg q, if_pos (nI_pos' hj)]
        rfl
    · rw [el fr] at hD
      cases hD
      omega
    · rw [beV_s k (el fr)]
      by_cases q : k = -1
      · rw [if_pos q, if_pos q]
        rfl
      · obtain ⟨j, hj, rfl⟩ := pos hk q
        rw [if_neg q, if_neg q, if_neg (nI_nlt (Nat.zero_le _) hj)]
  · obtain ⟨hx, J, A, Q, n, c0, sl, out, ebt, po, q1, q2, res⟩ := x_bellsTo g e60 hT hTF
    obtain ⟨gx, px, hn1, hn2, hA, hQ, lo, jo⟩ := id po
    have sx := gx.1
    have sJ : Sh (wI hx J) := sx
    have cx : HR (zI hx) 3 f := by
      have := gx.2.2.1
      rw [lo 60 (by omega), e60] at this
      exact this
    have cJ : HR (zI (wI hx J)) 3 f := HR_congr (f := f) (fun b hb => jo _ (by omega) (by omega) (by omega) (by omega)) (fun g hg => ⟨jo _ (by omega) (by omega) (by omega) (by omega), jo _ (by omega) (by omega) (by omega) (by omega)⟩) (fun _ _ => rfl) i cx
    have po0 : paO h hx J A Q n 0 := ⟨gx, px, by have := p8p (nG f); show 8 ^ 0 ≤ n; omega, hn2, hA, hQ, lo, jo⟩
    have r07x : zR (wI hx J) 0 7 = some 50 := by have s' := sx; unfold Sh at s'; simp only [wI_R, s']
    have pre : ∀ ans, (if k = -1 then some (Sum.inl out, wI hx J, 0, 0) else if out ≤ k then some (Sum.inl (-1), wI hx J, 0, 0) else ob (F_X4_bellAt 50 k 3 (wI hx J)) fun r22 => some (Sum.inl r22, wI hx J, 0, 0)) = some (Sum.inl ans, wI hx J, 0, 0) → F_X11_bells_b62 0 k (nI (piS (nG f) T)) h = some (.inl ans, wI hx J, 0 + c0, 0 + sl) := fun ans e => by
      unfold F_X11_bells_b62 F_X11_bells_b117
      rw [if_neg (neg1_nI (by omega)), gd_d (k0 s), r07', ob_s, r0_1 s, ob_s, r0_5 s, ob_s, ebt, ob4_s, gd_d (k50 s), gd_d (k0 sJ), r07x, ob_s, r0_1 sJ, ob_s]
      have e2 : (fun r22 => gd (decide (kd (wI hx J) 50 = 4)) (some (Sum.inl r22, wI hx J, 0, 0))) = (fun r22 : Int32 => some ((Sum.inl r22 : Int32 ⊕ Nat), wI hx J, 0, 0)) := by
        funext r
        exact gd_d (k50 sJ) _
      rw [e2, e, ac_s]
    have noa : allR f T k (-1) → out = -1 → ∃ hx' J' A' Q' n' c' sl' out', F_X11_bells_b62 0 k (nI (piS (nG f) T)) h = some (.inl out', wI hx' J', c', sl') ∧ paO h hx' J' A' Q' n' 0 ∧ c' + potC hx' ≤ potC h ∧ sl' + potS hx' ≤ potS h ∧ allR f T k out' ∨ (F_X11_bells_b62 0 k (nI (piS (nG f) T)) h = some (.inl out', h, 0, 0) ∧ allR f T k out') := fun a e => by
      refine ⟨hx, J, A, Q, n, 0 + c0, 0 + sl, -1, Or.inl ⟨pre (-1) ?_, po0, by omega, by omega, a⟩⟩
      rw [e]
      by_cases q : k = -1
      · rw [if_pos q]
      · rw [if_neg q, if_pos hk]
    rcases res with ⟨l, e⟩ | ⟨l, S, o, be, e, hC⟩
    · refine noa (fun fr of => ?_) e
      have el : lefB f fr T = none := by
        unfold lefB
        rw [if_neg hTF]
        rcases of with ⟨-, o⟩ | ⟨l2, -⟩
        · exact ls_no _ (fun y _ => o y)
        · rw [l] at l2
          cases l2
      exact ⟨(fun D hD => by rw [el] at hD; cases hD), beV_n k el⟩
    · cases o with
      | none =>
        refine noa (fun fr of => ?_) e
        have el := be_no i hT l hTF be of
        exact ⟨(fun D hD => by rw [el] at hD; cases hD), beV_n k el⟩
      | some D =>
        have nbl : ∀ x y, x < 8 ^ nG f → y ∈ nbB f x → y < 8 ^ nG f := fun x y hx hy => nbB_lt i hx hy
        obtain ⟨j0, ej, -⟩ := id be
        have rv := (bRun_v (ok := okF (lI f) (ordS (sit f) (nG f))) (nb := nbB f) hT nbl j0).1
        rw [← ej] at rv
        have al := bV_all rv
        have hb : ∀ y d, S.1 y = some d → d < 32768 := fun y d hd => by
          have := bV_b rv hd
          omega
        -- any one of the reference's ends will do to name the answer
        obtain ⟨K, hK⟩ : ∃ K, ¬ K < (bRun (lI f) (nbB f) T K).2.2 := ⟨8 ^ nG f, fun z => by
          have := bV_all (bRun_v (ok := lI f) (nb := nbB f) hT nbl (8 ^ nG f)).1
          omega⟩
        have any : ∀ fr, frO f T fr → fr = (bRun (lI f) (nbB f) T K).1 := fun fr of => by
          rcases of with ⟨l2, -⟩ | ⟨-, K2, hK2, rfl⟩
          · rw [l] at l2
            cases l2
          · rw [fin_eq hK2 hK]
        have of0 : frO f T (bRun (lI f) (nbB f) T K).1 := Or.inr ⟨l, K, hK, rfl⟩
        obtain ⟨el, eD, pa⟩ := be_yes i hT l hTF be of0
        have hDb := hb _ _ eD
        have all : ∀ out', beV f (bRun (lI f) (nbB f) T K).1 T k = out' → allR f T k out' := fun out' e' fr of => by
          have := any fr of
          subst this
          refine ⟨fun D' hD' j hj => ?_, e'⟩
          rw [el] at hD'
          cases hD'
          exact (pa j hj).2.2
        refine ⟨hx, J, A, Q, n, 0 + c0, 0 + sl, beV f (bRun (lI f) (nbB f) T K).1 T k, Or.inl ⟨pre _ ?_, po0, by omega, by omega, all _ rfl⟩⟩
        rw [e, beV_s k el, fe_some]
        by_cases q : k = -1
        · rw [if_pos q, if_pos q]
        · obtain ⟨k0, hk0, rfl⟩ := pos hk q
          rw [if_neg q, if_neg q]
          by_cases p : k0 < D
          · rw [if_neg (nI_ge p (by omega)), if_pos (nI_lt p (by omega)), x_bellAt sJ i cJ px.1 px.2.2.1 px.2.2.2.2.1 hn1 hn2 hC hb p (by omega) pa, ob_s, nI_clamp hk0]
          · rw [if_pos (nI_le (by omega) hk0), if_neg (nI_nlt (by omega) hk0)]
end BELLS
