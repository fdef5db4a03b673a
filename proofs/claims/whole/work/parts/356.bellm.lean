/-! THE REFERENCE: the first bell; a told seating; the call bells -/
def fbL (P : Nat → Nat → Bool) (R n : Nat) : List Nat := cl (fun g => cl (fun r => if P g r then [8 * g + r] else []) R) n
theorem mem_fbL {P : Nat → Nat → Bool} {R n c : Nat} : c ∈ fbL P R n ↔ ∃ g, g < n ∧ ∃ r, r < R ∧ P g r = true ∧ c = 8 * g + r := by
  unfold fbL
  rw [mem_cl]
  constructor
  · rintro ⟨g, hg, h⟩
    rw [mem_cl] at h
    obtain ⟨r, hr, h⟩ := h
    cases p : P g r with
    | false =>
      rw [p, if_neg (by decide)] at h
      cases h
    | true =>
      rw [p, if_pos rfl] at h
      exact ⟨g, hg, r, hr, p, by simpa using h⟩
  · rintro ⟨g, hg, r, hr, p, rfl⟩
    refine ⟨g, hg, ?_⟩
    rw [mem_cl]
    exact ⟨r, hr, by rw [p, if_pos rfl]; simp⟩
theorem fbL_congr {P Q : Nat → Nat → Bool} {R n : Nat} (e : ∀ g r, g < n → r < R → P g r = Q g r) : fbL P R n = fbL Q R n := cl_congr (fun g hg => cl_congr (fun r hr => by rw [e g r hg hr]))
theorem scan2 {P : Nat → Nat → Bool} {R n : Nat} (hR : R ≤ 8) (hn : n ≤ 5) {b1 : Int32 → Int32 → Option (Int32 ⊕ (Unit ⊕ Int32))} {b2 : Int32 → Option (Int32 ⊕ (Unit ⊕ (Int32 × Int32)))}
    (h1 : ∀ g r, g < n → r < R → b1 (nI g) (nI r) = if P g r then some (.inr (.inr (nI r))) else some (.inl (nI (r + 1))))
    (h1e : ∀ g, g < n → b1 (nI g) (nI R) = some (.inr (.inl ())))
    (h2 : ∀ g, g < n → b2 (nI g) = ob (iter (b1 (nI g)) FU 0) (fun z => sm z (fun _ => some (.inl (nI g + 1))) (fun w => some (.inr (.inr (nI g, w))))))
    (h2e : b2 (nI n) = some (.inr (.inl ()))) :
    ob (iter b2 FU 0) (fun z => sm z (fun _ => some (-1 : Int32)) (fun z => un2 z fun a b => some (((8 : Int32) * a) + b))) = some (hdN (fbL P R n)) := by
  have inner : ∀ g, g < n → (cl (fun r => if P g r then [8 * g + r] else []) R = [] ∧ iter (b1 (nI g)) FU 0 = some (.inl ())) ∨ (∃ c t x, cl (fun r => if P g r then [8 * g + r] else []) R = c :: t ∧ iter (b1 (nI g)) FU 0 = some x ∧ ∃ r, r < 8 ∧ c = 8 * g + r ∧ x = .inr (nI r)) := fun g hg => by
    refine iter_sc0 (body := b1 (nI g)) (fun r => nI r) (fun r => if P g r then [8 * g + r] else []) (.inl ()) (fun c x => ∃ r, r < 8 ∧ c = 8 * g + r ∧ x = .inr (nI r)) R rfl (fun r hr => ?_) (h1e g hg) (FU_lt (by omega))
    rw [h1 g r hg hr]
    cases p : P g r with
    | false =>
      left
      exact ⟨rfl, rfl⟩
    | true =>
      right
      exact ⟨8 * g + r, [], _, rfl, rfl, r, by omega, rfl, rfl⟩
  have outer := iter_sc0 (body := b2) (s0 := 0) (fun g => nI g) (fun g => cl (fun r => if P g r then [8 * g + r] else []) R) (.inl ()) (fun c x => ∃ g r, r < 8 ∧ c = 8 * g + r ∧ x = .inr (nI g, nI r)) n rfl (fun g hg => by
    rw [h2 g hg]
    rcases inner g hg with ⟨e1, e2⟩ | ⟨c, t, x, e1, e2, r, hr, e3, rfl⟩
    · left
      refine ⟨e1, ?_⟩
      rw [e2, ob_s, sm_l, nI_1]
    · right
      refine ⟨c, t, _, e1, ?_, g, r, hr, e3, rfl⟩
      rw [e2, ob_s, sm_r]) h2e (FU_lt (by omega))
  unfold fbL
  rcases outer with ⟨e1, e2⟩ | ⟨c, t, x, e1, e2, g, r, hr, rfl, rfl⟩
  · rw [e2, ob_s, sm_l, e1]
    rfl
  · rw [e2, ob_s, sm_r, e1]
    show some ((8 : Int32) * nI g + nI r) = some (nI (8 * g + r))
    rw [nl_8, nmul, nadd]
section BELLM
variable {h : Hp} {f : Nat → Int32}
def pR (f : Nat → Int32) (fr : Nat → Option Nat) (x L g r : Nat) : Bool := !decide (nbr (nG f) x g r = x) && decide (fr (nbr (nG f) x g r) = some L)
theorem fe_eq {o : Option Nat} {L : Nat} (ho : ∀ d, o = some d → d < 32768) (hL : L < 32768) : fe o = nI L ↔ o = some L := by
  cases o with
  | none =>
    constructor
    · intro q
      exact absurd q.symm (neg1_nI (by omega))
    · intro q
      cases q
  | some d =>
    have := ho d rfl
    rw [fe_some, nI_eq (by omega) (by omega)]
    constructor
    · intro q
      rw [q]
    · intro q
      cases q
      rfl
theorem m_firstBell (s : Sh h) (e60 : zI h 60 = f) (i : Inv f) {x L : Nat} (hx : x < 8 ^ nG f) (hL : L < 32768) {fr : Nat → Option Nat} (hfr : ∀ y, y < 8 ^ nG f → zI h 70 y = fe (fr y)) (hb : ∀ y d, fr y = some d → d < 32768) : F_X12_firstBell 59 (nI x) (nI L) h = some (hdN (fbL (pR f fr x L) (nR f) (nG f))) := by
  have r8 := iR8 i
  have g5 := iG5 i
  have p8 := pow8 g5
  have er : zI h 60 0 = nI (nR f) := by rw [e60, iR i]
  have eg : zI h 60 1 = nI (nG f) := by rw [e60, iG i]
  unfold F_X12_firstBell F_X12_firstBell_b0
  refine scan2 (P := pR f fr x L) r8 g5 (b1 := fun g z => F_X12_firstBell_l13 59 (nI x) (nI L) g z h) (b2 := fun z => F_X12_firstBell_l2 59 (nI x) (nI L) z h) (fun g r hg hr => ?_) (fun g hg => ?_) (fun g hg => ?_) ?_
  · have hy : nbr (nG f) x g r < 8 ^ nG f := nbr_lt hx hg (by omega)
    have ep : pR f fr x L g r = (!decide (nbr (nG f) x g r = x) && decide (fr (nbr (nG f) x g r) = some L)) := rfl
    unfold F_X12_firstBell_l13 F_X12_firstBell_b57
    rw [m_rooms s, ob_s, gd_d (k59 s), er, if_neg (nI_ge hr (by omega)), m_sent s e60 i hx hg (by omega), ob_s, ep]
    generalize nbr (nG f) x g r = y at *
    rw [r59_21 s, ob_s, gd_d (k70 s), l70 s, ix_t (by omega) (by omega), gd_t, ncl (by omega), hfr y hy, nI_1]
    by_cases q : y = x
    · rw [if_pos (by rw [q]), decide_eq_true q]
      rfl
    · rw [if_neg (fun z => q ((nI_eq (by omega) (by omega)).mp z)), decide_eq_false q]
      by_cases p : fr y = some L
      · rw [if_pos ((fe_eq (fun d hd => hb y d hd) hL).mpr p), decide_eq_true p]
        rfl
      · rw [if_neg (fun z => p ((fe_eq (fun d hd => hb y d hd) hL).mp z)), decide_eq_false p]
        rfl
  · show F_X12_firstBell_l13 59 (nI x) (nI L) (nI g) (nI (nR f)) h = _
    unfold F_X12_firstBell_l13
    rw [m_rooms s, ob_s, gd_d (k59 s), er, if_pos (Int32.le_refl _)]
  · show F_X12_firstBell_l2 59 (nI x) (nI L) (nI g) h = _
    unfold F_X12_firstBell_l2
    rw [m_guests s, ob_s, gd_d (k59 s), eg, if_neg (nI_ge hg (by omega))]
  · show F_X12_firstBell_l2 59 (nI x) (nI L) (nI (nG f)) h = _
    unfold F_X12_firstBell_l2
    rw [m_guests s, ob_s, gd_d (k59 s), eg, if_pos (Int32.le_refl _)]
/-- where the first t bells lead -/
def bp (f : Nat → Int32) (fr : Nat → Option Nat) (D F : Nat) : Nat → Nat
  | 0 => F
  | t + 1 => nbr (nG f) (bp f fr D F t) ((fbL (pR f fr (bp f fr D F t) (D - t - 1)) (nR f) (nG f)).headD 0 / 8) ((fbL (pR f fr (bp f fr D F t) (D - t - 1)) (nR f) (nG f)).headD 0 % 8)
def bl (f : Nat → Int32) (fr : Nat → Option Nat) (D F t : Nat) : List Nat := fbL (pR f fr (bp f fr D F t) (D - t - 1)) (nR f) (nG f)
theorem bp_s (fr : Nat → Option Nat) (D F t : Nat) : bp f fr D F (t + 1) = nbr (nG f) (bp f fr D F t) ((bl f fr D F t).headD 0 / 8) ((bl f fr D F t).headD 0 % 8) := rfl
theorem bl_c (i : Inv f) {fr : Nat → Option Nat} {D F t c : Nat} {L : List Nat} (e : bl f fr D F t = c :: L) : ∃ g r, g < nG f ∧ r < nR f ∧ c / 8 = g ∧ c % 8 = r ∧ c < 40 ∧ pR f fr (bp f fr D F t) (D - t - 1) g r = true := by
  have r8 := iR8 i
  have g5 := iG5 i
  have m : c ∈ bl f fr D F t := by
    rw [e]
    simp
  obtain ⟨g, hg, r, hr, p, rfl⟩ := mem_fbL.mp m
  exact ⟨g, r, hg, hr, by omega, by omega, by omega, p⟩
theorem bp_lt (i : Inv f) {fr : Nat → Option Nat} {D F : Nat} (hF : F < 8 ^ nG f) : ∀ t, (∀ j, j < t → ∃ c L, bl f fr D F j = c :: L) → bp f fr D F t < 8 ^ nG f
  | 0, _ => hF
  | t + 1, h => by
    obtain ⟨c, L, e⟩ := h t (by omega)
    obtain ⟨g, r, hg, hr, e1, e2, -, -⟩ := bl_c i e
    have r8 := iR8 i
    rw [bp_s, e]
    show nbr (nG f) (bp f fr D F t) (c / 8) (c % 8) < _
    rw [e1, e2]
    exact nbr_lt (bp_lt i hF t (fun j hj => h j (by omega))) hg (by omega)
/-- the reference's walk by bells -/
theorem m_bellsL (s : Sh h) (e60 : zI h 60 = f) (i : Inv f) {F D k : Nat} (hF : F < 8 ^ nG f) (hD : D ≤ 32768) (hk : k < D) {fr : Nat → Option Nat} (hfr : ∀ y, y < 8 ^ nG f → zI h 70 y = fe (fr y)) (hb : ∀ y d, fr y = some d → d < 32768) (ex : ∀ j, j < D → ∃ c L, bl f fr D F j = c :: L) : iter (fun z : Int32 × Int32 × Int32 => F_X12_bells_l127 59 (nI k) z.1 (nI D) z.2.1 z.2.2 h) FU (nI F, -1, 0) = some (hdN (bl f fr D F k)) := by
  have p8 := pow8 (iG5 i)
  refine iter_at (fun t => (nI (bp f fr D F t), if t = 0 then -1 else hdN (bl f fr D F (t - 1)), nI t)) (k + 1) _ rfl (fun t ht => ?_) ?_ (FU_lt (by omega))
  · show F_X12_bells_l127 59 (nI k) (nI (bp f fr D F t)) (nI D) _ (nI t) h = _
    obtain ⟨c, L, e⟩ := ex t (by omega)
    obtain ⟨g, r, hg, hr, e1, e2, e3, -⟩ := bl_c i e
    have r8 := iR8 i
    have hx := bp_lt (fr := fr) (D := D) i hF t (fun j hj => ex j (by omega))
    have el : (nI D - nI t) - 1 = nI (D - t - 1) := by rw [nsub (by omega), npred (by omega)]
    have ef : F_X12_firstBell 59 (nI (bp f fr D F t)) (nI (D - t - 1)) h = some (nI c) := by
      rw [m_firstBell s e60 i hx (by omega) hfr hb]
      show some (hdN (bl f fr D F t)) = _
      rw [e]
      rfl
    unfold F_X12_bells_l127
    rw [if_neg (nI_nlt (by omega) (by omega)), el, ef, ob_s, gd_d (k59 s), nl_8, pk_rem (by omega) (by omega) (by omega), pk_div (by omega) (by omega) (by omega), e1, e2, m_sent s e60 i hx hg (by omega), ob_s, nI_1, bp_s, e]
    show some (Sum.inl (nI (nbr (nG f) (bp f fr D F t) g r), nI c, nI (t + 1))) = some (Sum.inl (nI (nbr (nG f) (bp f fr D F t) (c / 8) (c % 8)), hdN (bl f fr D F t), nI (t + 1)))
    rw [e, e1, e2]
    rfl
  · show F_X12_bells_l127 59 (nI k) _ (nI D) (hdN (bl f fr D F k)) (nI (k + 1)) h = _
    unfold F_X12_bells_l127
    rw [if_pos (nI_lt (by omega) (by omega))]
/-- a told seating -/
theorem m_orderOf (s : Sh h) (e60 : zI h 60 = f) (i : Inv f) (v : Int32) : (isIn v (8 ^ nG f) = false → F_X12_orderOf 59 v h = some (-1, h)) ∧ (∀ y, v = nI y → y < 8 ^ nG f → F_X12_orderOf 59 v h = some (if vS f (nd y) then nI (ordS (nd y) (nG f)) else -1, stH h 66 (fillF (fun g => nI (nd y g)) (zI h 66) (nG f)))) := by
  have g5 := iG5 i
  have r8 := iR8 i
  have p8 := pow8 g5
  have pp := p8p (nG f)
  have ein : F_X12_in v 0 (nI (8 ^ nG f) - 1) h = some (b2 (isIn v (8 ^ nG f))) := m_inN (by omega) rfl
  constructor
  · intro q
    unfold F_X12_orderOf F_X12_orderOf_b0
    rw [m_many s e60 i, ob_s, gd_d (k59 s), ein, ob_s, q, b2_f, if_pos rfl]
  · rintro y rfl hy
    have hd : ∀ t, y / 8 ^ t ≤ y := fun t => Nat.div_le_self _ _
    have s' : ∀ S, Sh (stH h 66 S) := fun S => s
    have lp : iter (fun z : Int32 × Int32 × Int32 × Hp => F_X12_orderOf_l23 59 z.1 z.2.1 z.2.2.1 z.2.2.2) FU (nI y, 1, 0, h) = some (b2 (decide (∀ k, k < nG f → nd y k < nR f)), stH h 66 (fillF (fun g => nI (nd y g)) (zI h 66) (nG f))) := by
      refine iter_at (fun t => (nI (y / 8 ^ t), b2 (decide (∀ k, k < t → nd y k < nR f)), nI t, stH h 66 (fillF (fun g => nI (nd y g)) (zI h 66) t))) (nG f) _ ?_ (fun t ht => ?_) ?_ (FU_lt (by omega))
      · rw [fill_0, stH_0, Nat.pow_zero, Nat.div_one, decide_eq_true (fun k hk => absurd hk (Nat.not_lt_zero k))]
        rfl
      · show F_X12_orderOf_l23 59 (nI (y / 8 ^ t)) (b2 (decide (∀ k, k < t → nd y k < nR f))) (nI t) (stH h 66 (fillF (fun g => nI (nd y g)) (zI h 66) t)) = _
        have hy2 := hd t
        have ew : setI (stH h 66 (fillF (fun g => nI (nd y g)) (zI h 66) t)) 66 t (nI (y / 8 ^ t % 8)) = stH h 66 (fillF (fun g => nI (nd y g)) (zI h 66) (t + 1)) := by
          rw [stH_w]
          have := fill_up (a := fun g => nI (nd y g)) (b := zI h 66) (j := t)
          rw [← this]
          rfl
        have er : F_X12_rooms 59 (stH h 66 (fillF (fun g => nI (nd y g)) (zI h 66) (t + 1))) = some (nI (nR f)) := by
          rw [m_rooms (s' _), stH_o (by decide), e60, iR i]
        have eg : zI (stH h 66 (fillF (fun g => nI (nd y g)) (zI h 66) t)) 60 1 = nI (nG f) := by rw [stH_o (by decide), e60, iG i]
        have dl := nd_lt y t
        unfold F_X12_orderOf_l23 F_X12_orderOf_b70 F_X12_orderOf_b71
        rw [m_guests (s' _), ob_s, gd_d (k59 (s' _)), eg, if_neg (nI_ge ht (by omega)), r59_15 (s' _), ob_s, gd_d (k66 (s' _)), l66 (s' _), ix_t (by omega) (by omega), gd_t, nl_8, pk_rem (by omega) (by omega) (by omega), pk_div (by omega) (by omega) (by omega), ncl (by omega), ew, r59_15 (s' _), ob_s, gd_d (k66 (s' _)), l66 (s' _), ix_t (by omega) (by omega), gd_t, er, ob_s, stH_e, fill_in (show t < t + 1 by omega), dall_s (fun k => nd y k < nR f), Nat.div_div_eq_div_mul, ← Nat.pow_succ, nI_1]
        cases decide (∀ k, k < t → nd y k < nR f) with
        | false =>
          rw [b2_f, if_pos rfl]
          rfl
        | true =>
          rw [b2_t, if_neg (by decide), Bool.true_and]
          by_cases p : nd y t < nR f
          · rw [if_neg (nI_ge p (by omega)), decide_eq_true p]
            rfl
          · rw [if_pos (nI_le (by omega) (by omega)), decide_eq_false p]
            rfl
      · show F_X12_orderOf_l23 59 _ _ (nI (nG f)) _ = _
        have eg : zI (stH h 66 (fillF (fun g => nI (nd y g)) (zI h 66) (nG f))) 60 1 = nI (nG f) := by rw [stH_o (by decide), e60, iG i]
        unfold F_X12_orderOf_l23
        rw [m_guests (s' _), ob_s, gd_d (k59 (s' _)), eg, if_pos (Int32.le_refl _)]
    have se : seated (stH h 66 (fillF (fun g => nI (nd y g)) (zI h 66) (nG f))) 66 (nG f) (nd y) := fun g hg => by
      rw [stH_e]
      exact ⟨fill_in hg, nd_lt _ _⟩
    unfold F_X12_orderOf F_X12_orderOf_b0
    rw [m_many s e60 i, ob_s, gd_d (k59 s), ein, ob_s, isIn_nI hy (by omega), b2_t, if_neg (by decide), lp, ob_s]
    show (if b2 (decide (∀ k, k < nG f → nd y k < nR f)) = 0 then _ else _) = _
    unfold F_X12_orderOf_b96 F_X12_orderOf_b97
    by_cases p : ∀ k, k < nG f → nd y k < nR f
    · rw [decide_eq_true p, b2_t, if_neg (by decide)]
      show ob (F_X12_areBeds 59 (stH h 66 _)) _ = _
      rw [m_areBeds (s' _) (by rw [stH_o (by decide), e60]) i se p, ob_s, gd_d (k59 (s' _)), m_order (s' _) (by rw [stH_o (by decide), e60]) i se, ob_s]
      have ev : vS f (nd y) = decide (∀ k, k < nG f → hdS (nd y) (nG f) (nd y k) ≤ bd f (nd y k)) := decide_eq_decide.mpr ⟨fun q k hk => (q k hk).2, fun q k hk => ⟨p k hk, q k hk⟩⟩
      rw [ev]
      cases decide (∀ k, k < nG f → hdS (nd y) (nG f) (nd y k) ≤ bd f (nd y k)) with
      | false => rfl
      | true => rfl
    · have ev : vS f (nd y) = false := decide_eq_false (fun q => p (fun k hk => (q k hk).1))
      rw [decide_eq_false p, b2_f, if_pos rfl, ev]
      rfl
end BELLM
