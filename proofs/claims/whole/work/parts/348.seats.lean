/-! THE CALL seats: what is found, and the reference -/
theorem accN_nat {F : Nat → Int32} {m : Nat → Nat} : ∀ {n : Nat}, (∀ k, k < n → F k = nI (m k)) → accN 0 F n = nI (fb_sm m n)
  | 0, _ => rfl
  | n + 1, e => by
    show accN 0 F n + F n = nI (fb_sm m n + m n)
    rw [accN_nat (fun k hk => e k (by omega)), e n (by omega), nI_add]
theorem accN_b2 {F : Nat → Int32} : ∀ {n : Nat}, (∀ k, k < n → ∃ b, F k = b2 b) → ∃ m, m ≤ n ∧ accN 0 F n = nI m
  | 0, _ => ⟨0, Nat.le_refl _, rfl⟩
  | n + 1, e => by
    obtain ⟨m, h1, h2⟩ := accN_b2 (n := n) (fun k hk => e k (by omega))
    obtain ⟨b, hb⟩ := e n (by omega)
    cases b with
    | false => exact ⟨m, by omega, by show accN 0 F n + F n = nI m; rw [h2, hb, b2_f, Int32.add_zero]⟩
    | true => exact ⟨m + 1, by omega, by show accN 0 F n + F n = nI (m + 1); rw [h2, hb, b2_t, nI_1]⟩
section SEATS
variable {h : Hp} {f : Nat → Int32}
def mfN (f : Nat → Int32) (sf : Nat → Nat) (g : Nat) : Nat := (metF f sf g).toNatClampNeg
def wNg (f : Nat → Int32) (g : Nat) : Nat := wN (fun k => f (147 + 817 * g + k)) 0
/-- all wishes are right -/
def allW (f : Nat → Int32) : Prop := ∀ g, g < nG f → WOk (fun k => f (147 + 817 * g + k))
theorem metF_nat (s : Sh h) (e60 : zI h 60 = f) (i : Inv f) (ok : allW f) {sf : Nat → Nat} (h8 : ∀ g, g < nG f → sf g < 8) {g : Nat} (hg : g < nG f) : metF f sf g = nI (mfN f sf g) ∧ mfN f sf g ≤ wNg f g := by
  have s' : Sh (stH h 66 (fun g => nI (sf g))) := s
  have hs : seated (stH h 66 (fun g => nI (sf g))) 66 (nG f) sf := fun k hk => by
    rw [stH_e]
    exact ⟨rfl, h8 k hk⟩
  obtain ⟨m, h1, h2⟩ := accN_b2 (F := wvV (faS f sf g) (fun k => f (147 + 817 * g + k))) (n := wNg f g) (fun w hw => by
    obtain ⟨M, b, -, hb⟩ := m_holdsWish s' (by rw [stH_o (by decide), e60]) i hs hg (ok g hg) hw
    exact ⟨b, hb⟩)
  have e : metF f sf g = nI m := h2
  have w8 : wNg f g ≤ 8 := (ok g hg).2.1
  unfold mfN
  rw [e, nI_clamp (by omega)]
  exact ⟨rfl, h1⟩
/-- met by all in the i-th order -/
def mN (f : Nat → Int32) (y : Nat) : Nat := fb_sm (mfN f (dg (nG f) y)) (nG f)
def wT (f : Nat → Int32) : Nat := fb_sm (wNg f) (nG f)
theorem wT_le (i : Inv f) (ok : allW f) : wT f ≤ 40 := by
  have g5 := iG5 i
  have := fb_sm_bound (f := wNg f) (c := 8) (n := nG f) (fun k hk => (ok k hk).2.1)
  unfold wT
  omega
theorem metA_nat (s : Sh h) (e60 : zI h 60 = f) (i : Inv f) (ok : allW f) (y : Nat) : metA f (dg (nG f) y) (nG f) = nI (mN f y) ∧ mN f y ≤ wT f := by
  refine ⟨accN_nat (fun k hk => (metF_nat s e60 i ok (fun g _ => dg_lt _ _ _) hk).1), ?_⟩
  exact fb_sm_le (fun k hk => (metF_nat s e60 i ok (fun g _ => dg_lt _ _ _) hk).2)
theorem wiS_nat (ok : allW f) : wiS f = nI (wT f) := accN_nat (fun k hk => (ok k hk).1)
def seB (f : Nat → Int32) : Nat → Option Nat
  | 0 => none
  | P + 1 => if lI f P then (match seB f P with
    | none => some P
    | some b => if mN f b < mN f P then some P else some b) else seB f P
theorem seB_s (P : Nat) : seB f (P + 1) = if lI f P then (match seB f P with
    | none => some P
    | some b => if mN f b < mN f P then some P else some b) else seB f P := rfl
theorem seB_lt : ∀ {P b : Nat}, seB f P = some b → b < P ∧ lI f b = true
  | 0, b, e => by cases e
  | P + 1, b, e => by
    rw [seB_s] at e
    cases l : lI f P with
    | false =>
      rw [l, if_neg (by decide)] at e
      have := seB_lt e
      exact ⟨by omega, this.2⟩
    | true =>
      rw [l, if_pos rfl] at e
      cases w : seB f P with
      | none =>
        rw [w] at e
        cases e
        exact ⟨by omega, l⟩
      | some a =>
        rw [w] at e
        have := seB_lt w
        dsimp only at e
        by_cases p : mN f a < mN f P
        · rw [if_pos p] at e
          cases e
          exact ⟨by omega, l⟩
        · rw [if_neg p] at e
          cases e
          exact ⟨by omega, this.2⟩
def seM (f : Nat → Int32) (o : Option Nat) : Int32 × Int32 := match o with
  | none => (-1, -1)
  | some b => (nI b, nI (mN f b))
def seC (f : Nat → Int32) (o : Option Nat) : Int32 × Int32 := match o with
  | none => (-1, -1)
  | some b => (nI (numS (dg (nG f) b) (nG f)), nI (mN f b))
theorem neg1_lt (n : Nat) (hn : n < 2147483648) : (-1 : Int32) < nI n := by
  rw [fa_lt, nI_toInt hn]
  have : (-1 : Int32).toInt = -1 := rfl
  omega
/-- the reference while it finds: seats, levels, its own numbers, its stack -/
def mS (h : Hp) (S B V D : Nat → Int32) : Hp := wI h (va_up (va_up (va_up (va_up (zI h) 66 S) 69 B) 67 V) 59 D)
theorem mS_66 {S B V D : Nat → Int32} : zI (mS h S B V D) 66 = S := by
  unfold mS
  rw [wI_I, va_n _ _ _ _ (by decide), va_n _ _ _ _ (by decide), va_n _ _ _ _ (by decide), va_e]
theorem mS_69 {S B V D : Nat → Int32} : zI (mS h S B V D) 69 = B := by
  unfold mS
  rw [wI_I, va_n _ _ _ _ (by decide), va_n _ _ _ _ (by decide), va_e]
theorem mS_67 {S B V D : Nat → Int32} : zI (mS h S B V D) 67 = V := by
  unfold mS
  rw [wI_I, va_n _ _ _ _ (by decide), va_e]
theorem mS_59 {S B V D : Nat → Int32} : zI (mS h S B V D) 59 = D := by
  unfold mS
  rw [wI_I, va_e]
theorem mS_o {S B V D : Nat → Int32} {a : Nat} (h1 : a ≠ 66) (h2 : a ≠ 69) (h3 : a ≠ 67) (h4 : a ≠ 59) : zI (mS h S B V D) a = zI h a := by
  unfold mS
  rw [wI_I, va_n _ _ _ _ h4, va_n _ _ _ _ h3, va_n _ _ _ _ h2, va_n _ _ _ _ h1]
theorem mS_at {S B V D : Nat → Int32} (a : Nat) : zI (mS h S B V D) a = if a = 59 then D else if a = 67 then V else if a = 69 then B else if a = 66 then S else zI h a := by
  by_cases h1 : a = 59
  · subst h1
    exact mS_59
  · rw [if_neg h1]
    by_cases h2 : a = 67
    · subst h2
      exact mS_67
    · rw [if_neg h2]
      by_cases h3 : a = 69
      · subst h3
        exact mS_69
      · rw [if_neg h3]
        by_cases h4 : a = 66
        · subst h4
          exact mS_66
        · rw [if_neg h4, mS_o h4 h3 h2 h1]
theorem mS_e {S B V D : Nat → Int32} {J : Nat → Nat → Int32} (e : ∀ a, J a = if a = 59 then D else if a = 67 then V else if a = 69 then B else if a = 66 then S else zI h a) : wI h J = mS h S B V D := by
  have : J = zI (mS h S B V D) := by
    funext a
    rw [e a, mS_at]
  rw [this]
  rfl
theorem mS_st66 {S B V D T : Nat → Int32} : stH (mS h S B V D) 66 T = mS h T B V D := by
  unfold stH
  show wI h _ = _
  refine mS_e (fun a => ?_)
  by_cases h1 : a = 66
  · subst h1
    rw [va_e]
    rfl
  · rw [va_n _ _ _ _ h1, mS_at, if_neg h1, if_neg h1]
theorem mS_st67 {S B V D T : Nat → Int32} : stH (mS h S B V D) 67 T = mS h S B T D := by
  unfold stH
  show wI h _ = _
  refine mS_e (fun a => ?_)
  by_cases h1 : a = 67
  · subst h1
    rw [va_e]
    rfl
  · rw [va_n _ _ _ _ h1, mS_at, if_neg h1, if_neg h1]
theorem mS_w59 {S B V D : Nat → Int32} {k : Nat} {v : Int32} : setI (mS h S B V D) 59 k v = mS h S B V (va_up D k v) := by
  rw [setI_w]
  show wI h _ = _
  refine mS_e (fun a => ?_)
  by_cases h1 : a = 59
  · subst h1
    rw [up2_v1, mS_59]
    rfl
  · rw [up2_a _ _ _ _ _ h1, mS_at, if_neg h1, if_neg h1]
theorem mS_mL {S B : Nat → Int32} : mL h S B = mS h S B (zI h 67) (zI h 59) := by
  unfold mL
  refine mS_e (fun a => ?_)
  by_cases h1 : a = 59
  · subst h1
    rw [va_n _ _ _ _ (by decide), va_n _ _ _ _ (by decide)]
    rfl
  · rw [if_neg h1]
    by_cases h2 : a = 67
    · subst h2
      rw [va_n _ _ _ _ (by decide), va_n _ _ _ _ (by decide)]
      rfl
    · rw [if_neg h2]
      by_cases h3 : a = 69
      · subst h3
        rw [va_e]
        rfl
      · rw [if_neg h3, va_n _ _ _ _ h3]
        by_cases h4 : a = 66
        · subst h4
          rw [va_e]
          rfl
        · rw [if_neg h4, va_n _ _ _ _ h4]
def sD (f D : Nat → Int32) (P : Nat) (D' : Nat → Int32) : Prop := D' 23 = (seM f (seB f P)).1 ∧ D' 24 = (seM f (seB f P)).2 ∧ D' 25 = nI (fb_ct (lI f) P) ∧ ∀ k, k ≠ 23 → k ≠ 24 → k ≠ 25 → D' k = D k
theorem m_finds (s : Sh h) (e60 : zI h 60 = f) (i : Inv f) (ok : allW f) {S B V D : Nat → Int32} (hB : ∀ k, k < 8 ^ nG f → B k = b2 (lI f k)) : ∃ S' V' D', F_X12_findsSeats 59 (mS h S B V D) = some ((), mS h S' B V' D') ∧ sD f D (8 ^ nG f) D' := by
  have g5 := iG5 i
  have p8 := pow8 g5
  have w40 := wT_le i ok
  have s' : ∀ S B V D, Sh (mS h S B V D) := fun _ _ _ _ => s
  have e60' : ∀ S B V D, zI (mS h S B V D) 60 = f := fun _ _ _ _ => by rw [mS_o (by decide) (by decide) (by decide) (by decide), e60]
  unfold F_X12_findsSeats F_X12_findsSeats_b0
  rw [gd_d (k59 (s' _ _ _ _)), mS_w59, mS_w59, mS_w59]
  have key := iter_cnt (body := fun z : Int32 × Hp => F_X12_findsSeats_l17 59 z.1 z.2) (s0 := (0, mS h S B V (va_up (va_up (va_up D 23 (-1)) 24 (-1)) 25 0))) (fun j z => ∃ S' V' D', z = (nI j, mS h S' B V' D') ∧ sD f D j D') (fun x => ∃ S' V' D', x = mS h S' B V' D' ∧ sD f D (8 ^ nG f) D') (8 ^ nG f) (fun j z hj hI => ?_) (fun z hI => ?_) ⟨S, V, _, rfl, by simp [va_up, seM, seB], by simp [va_up, seM, seB], by simp [va_up, fb_ct]; rfl, fun k h1 h2 h3 => by rw [va_n _ _ _ _ h3, va_n _ _ _ _ h2, va_n _ _ _ _ h1]⟩ (FU_lt (by omega))
  · obtain ⟨x, hx, S', V', D', hE, hD⟩ := key
    refine ⟨S', V', D', ?_, hD⟩
    rw [hx, ob_s, hE]
  · obtain ⟨S1, V1, D1, rfl, d23, d24, d25, dd⟩ := hI
    have so : ∀ T V D, seated (mS h (opF f j T) B V D) 66 (nG f) (dg (nG f) j) := fun T V D g hg => by
      rw [mS_66]
      exact ⟨fill_in hg, dg_lt _ _ _⟩
    obtain ⟨M, em⟩ := m_metByAll (s' _ _ _ _) (e60' _ _ _ _) i (so S1 V1 (va_up D1 25 (D1 25 + 1))) ok
    obtain ⟨mn, ml⟩ := metA_nat s e60 i ok j
    show ∃ z', F_X12_findsSeats_l17 59 (nI j) (mS h S1 B V1 D1) = some (.inl z') ∧ _
    unfold F_X12_findsSeats_l17 F_X12_findsSeats_b79
    rw [m_many (s' _ _ _ _) (e60' _ _ _ _) i, ob_s, gd_d (k59 (s' _ _ _ _)), if_neg (nI_ge hj (by omega)), r59_20 (s' _ _ _ _), ob_s, gd_d (k69 (s' _ _ _ _)), l69 (s' _ _ _ _), ix_t (by omega) (by omega), gd_t, ncl (by omega), mS_69, hB j hj, nI_1]
    unfold sD
    rw [seB_s, fb_ct_succ]
    cases l : lI f j with
    | false =>
      rw [b2_f, if_pos rfl, if_neg (by decide)]
      exact ⟨_, rfl, S1, V1, D1, rfl, d23, d24, d25, dd⟩
    | true =>
      rw [b2_t, if_neg (by decide), if_pos rfl, mS_59, mS_w59, m_opens (s' _ _ _ _) (e60' _ _ _ _) i hj, ob2_s, mS_66, mS_st66, em, ob2_s, gd_d (k59 (s' _ _ _ _)), mS_st67, gd_d (k59 (s' _ _ _ _)), mS_59, va_n _ _ _ _ (by decide), mS_w59, mS_w59, mn, d24, d25, nI_1]
      have wr : ∀ a b : Int32, va_up (va_up (va_up D1 25 (nI (fb_ct (lI f) j + 1))) 23 a) 24 b 23 = a ∧ va_up (va_up (va_up D1 25 (nI (fb_ct (lI f) j + 1))) 23 a) 24 b 24 = b ∧ va_up (va_up (va_up D1 25 (nI (fb_ct (lI f) j + 1))) 23 a) 24 b 25 = nI (fb_ct (lI f) j + 1) ∧ ∀ k, k ≠ 23 → k ≠ 24 → k ≠ 25 → va_up (va_up (va_up D1 25 (nI (fb_ct (lI f) j + 1))) 23 a) 24 b k = D k := fun a b => ⟨by simp [va_up], by simp [va_up], by simp [va_up], fun k h1 h2 h3 => by rw [va_n _ _ _ _ h2, va_n _ _ _ _ h1, va_n _ _ _ _ h3, dd k h1 h2 h3]⟩
      have w0 : va_up D1 25 (nI (fb_ct (lI f) j + 1)) 23 = (seM f (seB f j)).1 ∧ va_up D1 25 (nI (fb_ct (lI f) j + 1)) 24 = (seM f (seB f j)).2 ∧ va_up D1 25 (nI (fb_ct (lI f) j + 1)) 25 = nI (fb_ct (lI f) j + 1) ∧ ∀ k, k ≠ 23 → k ≠ 24 → k ≠ 25 → va_up D1 25 (nI (fb_ct (lI f) j + 1)) k = D k := ⟨by rw [va_n _ _ _ _ (by decide), d23], by rw [va_n _ _ _ _ (by decide), d24], va_e _ _ _, fun k h1 h2 h3 => by rw [va_n _ _ _ _ h3, dd k h1 h2 h3]⟩
      cases w : seB f j with
      | none =>
        rw [show (seM f none).2 = -1 from rfl, if_pos (show (-1 : Int32) < nI (mN f j) from neg1_lt _ (by omega))]
        exact ⟨_, rfl, _, _, _, rfl, wr _ _⟩
      | some b =>
        have nb := (metA_nat s e60 i ok b).2
        rw [w] at w0
        dsimp only
        rw [show (seM f (some b)).2 = nI (mN f b) from rfl]
        by_cases p : mN f b < mN f j
        · rw [if_pos (show nI (mN f b) < nI (mN f j) from nI_lt p (by omega)), if_pos p]
          exact ⟨_, rfl, _, _, _, rfl, wr _ _⟩
        · rw [if_neg (show ¬ nI (mN f b) < nI (mN f j) from nI_nlt (by omega) (by omega)), if_neg p]
          exact ⟨_, rfl, _, _, _, rfl, w0⟩
  · obtain ⟨S1, V1, D1, rfl, hD⟩ := hI
    refine ⟨_, ?_, S1, V1, D1, rfl, hD⟩
    show F_X12_findsSeats_l17 59 (nI (8 ^ nG f)) (mS h S1 B V1 D1) = _
    unfold F_X12_findsSeats_l17
    rw [m_many (s' _ _ _ _) (e60' _ _ _ _) i, ob_s, gd_d (k59 (s' _ _ _ _)), if_pos (Int32.le_refl _)]
def seA (f : Nat → Int32) (v : Int32) (P : Nat) : Int32 := if v = 0 then (seC f (seB f P)).1 else if v = 1 then (seC f (seB f P)).2 else nI (fb_ct (lI f) P)
theorem mS_m {S B V D : Nat → Int32} (e : ∀ k, (k = 4 ∨ k = 6 ∨ k = 11) → D k = zI h 59 k) : MN (zI h) (zI (mS h S B V D)) := fun a k q => by
  by_cases h1 : a = 59
  · subst h1
    rw [mS_59]
    exact e k (by unfold mNo at q; omega)
  · rw [mS_o (by unfold mNo at q; omega) (by unfold mNo at q; omega) (by unfold mNo at q; omega) h1]
theorem m_seats (s : Sh h) (e60 : zI h 60 = f) (i : Inv f) (ok : allW f) (v : Int32) : (isIn v 3 = false → F_X12_seats 59 v h = some (0, tk h 1)) ∧ (isIn v 3 = true → ∃ J, MN (zI h) J ∧ J 59 0 = 0 ∧ F_X12_seats 59 v h = some (seA f v (8 ^ nG f), wI h J)) := by
  have p8 := pow8 (iG5 i)
  have e3 : ∀ H : Hp, F_X12_in v 0 2 H = some (b2 (isIn v 3)) := fun H => m_inN (n := 3) (by omega) rfl
  constructor
  · intro q
    unfold F_X12_seats F_X12_seats_b0 F_X12_seats_b20
    rw [gd_d (k59 s), t0_d, e3, ob_s, q, b2_f, if_pos rfl, m_thr1 (t0_s s), ob2_s, gd_d (k59 (t0_s s)), if_neg (by decide)]
    rfl
  · intro q
    obtain ⟨S1, V1, D1, ef, d23, d24, d25, dd⟩ := m_finds (t0_s s) (t0_60.trans e60) i ok (S := sqT f (zI (t0 h) 66) (8 ^ nG f)) (B := fillF (fun k => b2 (lI f k)) (zI (t0 h) 69) (8 ^ nG f)) (V := zI (t0 h) 67) (D := zI (t0 h) 59) (fun k hk => fill_in hk)
    generalize hBB : fillF (fun k => b2 (lI f k)) (zI (t0 h) 69) (8 ^ nG f) = BB at *
    have s' : ∀ S B V D, Sh (mS (t0 h) S B V D) := fun _ _ _ _ => s
    have mm : ∀ S, MN (zI h) (zI (mS (t0 h) S BB V1 D1)) := fun S => MN_t t0_m (mS_m (fun k hk => dd k (by omega) (by omega) (by omega)))
    have mz : ∀ S, zI (mS (t0 h) S BB V1 D1) 59 0 = 0 := fun S => by
      rw [mS_59, dd 0 (by decide) (by decide) (by decide)]
      exact t0_z
    unfold F_X12_seats F_X12_seats_b0 F_X12_seats_b20
    rw [gd_d (k59 s), t0_d, e3, ob_s, q, b2_t, if_neg (by decide), m_thr0 (t0_s s), ob2_s, gd_d (k59 (t0_s s)), if_pos rfl, m_laysAll (t0_s s) (t0_60.trans e60) i, ob2_s, hBB, gd_d (k59 (t0_s s)), mS_mL, ef, ob2_s, gd_d (k59 (s' _ _ _ _)), gd_d (k59 (s' _ _ _ _)), gd_d (k59 (s' _ _ _ _)), gd_d (k59 (s' _ _ _ _)), mS_59, d23, d24, d25]
    unfold F_X12_seats_b80 seA
    rcases in3 q with rfl | rfl | rfl
    · rw [if_neg (by decide), if_neg (by decide), if_pos rfl]
      cases w : seB f (8 ^ nG f) with
      | none =>
        show ∃ J, MN (zI h) J ∧ J 59 0 = 0 ∧ (if (0 : Int32) ≤ -1 then _ else _) = _
        rw [if_neg (show ¬ (0 : Int32) ≤ -1 by decide)]
        exact ⟨_, mm S1, mz S1, rfl⟩
      | some b =>
        have hb := (seB_lt w).1
        show ∃ J, MN (zI h) J ∧ J 59 0 = 0 ∧ (if 0 ≤ nI b then _ else _) = _
        rw [if_pos (show 0 ≤ nI b from nI_pos' (by omega))]
        show ∃ J, MN (zI h) J ∧ J 59 0 = 0 ∧ ob2 (F_X12_numberOf 59 (nI b) (mS (t0 h) S1 BB V1 D1)) _ = _
        rw [m_numberOf (s' _ _ _ _) (by rw [mS_o (by decide) (by decide) (by decide) (by decide), t0_60, e60]) i hb, ob2_s, mS_66, mS_st66]
        exact ⟨_, mm _, mz _, rfl⟩
    · rw [if_neg (by decide), if_pos rfl, if_neg (by decide), if_pos rfl]
      refine ⟨_, mm S1, mz S1, ?_⟩
      cases seB f (8 ^ nG f) <;> rfl
    · rw [if_pos rfl, if_neg (by decide), if_neg (by decide)]
      exact ⟨_, mm S1, mz S1, rfl⟩
end SEATS
