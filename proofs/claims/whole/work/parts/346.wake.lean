/-! ALL ORDERS LAID OUT; THE CALL wake -/
section WAKE
variable {h : Hp} {f : Nat → Int32}
/-- the i-th order is a seating, and level -/
def lI (f : Nat → Int32) (y : Nat) : Bool := vI f y && levS f (netS f 0 (dg (nG f) y)) (netS f 1 (dg (nG f) y)) (tin f)
def mL (h : Hp) (S B : Nat → Int32) : Hp := wI h (va_up (va_up (zI h) 66 S) 69 B)
theorem mL_66 {S B : Nat → Int32} : zI (mL h S B) 66 = S := by
  unfold mL
  rw [wI_I, va_n _ _ _ _ (by decide), va_e]
theorem mL_69 {S B : Nat → Int32} : zI (mL h S B) 69 = B := by
  unfold mL
  rw [wI_I, va_e]
theorem mL_o {S B : Nat → Int32} {a : Nat} (h1 : a ≠ 66) (h2 : a ≠ 69) : zI (mL h S B) a = zI h a := by
  unfold mL
  rw [wI_I, va_n _ _ _ _ h2, va_n _ _ _ _ h1]
theorem mL_s {S B : Nat → Int32} (s : Sh h) : Sh (mL h S B) := s
theorem mL_at {S B : Nat → Int32} (a : Nat) : zI (mL h S B) a = if a = 66 then S else if a = 69 then B else zI h a := by
  by_cases h1 : a = 66
  · subst h1
    rw [if_pos rfl, mL_66]
  · rw [if_neg h1]
    by_cases h2 : a = 69
    · subst h2
      rw [if_pos rfl, mL_69]
    · rw [if_neg h2, mL_o h1 h2]
theorem mL_e {S B : Nat → Int32} {J : Nat → Nat → Int32} (e : ∀ a, J a = if a = 66 then S else if a = 69 then B else zI h a) : wI h J = mL h S B := by
  unfold mL
  congr 1
  funext a
  rw [e a]
  by_cases h2 : a = 69
  · subst h2
    rw [va_e]
    rfl
  · rw [va_n _ _ _ _ h2]
    by_cases h1 : a = 66
    · subst h1
      rw [va_e]
      rfl
    · rw [va_n _ _ _ _ h1, if_neg h1, if_neg h2]
theorem mL_st {S B T : Nat → Int32} : stH (mL h S B) 66 T = mL h T B := by
  unfold stH
  show wI h _ = _
  refine mL_e (fun a => ?_)
  by_cases h1 : a = 66
  · subst h1
    rw [va_e]
    rfl
  · rw [va_n _ _ _ _ h1, mL_at, if_neg h1, if_neg h1]
theorem mL_w {S B : Nat → Int32} {k : Nat} {v : Int32} : setI (mL h S B) 69 k v = mL h S (va_up B k v) := by
  rw [setI_w]
  show wI h _ = _
  refine mL_e (fun a => ?_)
  by_cases h1 : a = 69
  · subst h1
    rw [up2_v1, mL_69]
    rfl
  · rw [up2_a _ _ _ _ _ h1, mL_at, if_neg h1, if_neg h1]
theorem mL_0 : mL h (zI h 66) (zI h 69) = h := by
  rw [← mL_e (h := h) (J := zI h) (fun a => ?_)]
  · exact wI_0 h
  · by_cases h1 : a = 66
    · subst h1
      rfl
    · rw [if_neg h1]
      by_cases h2 : a = 69
      · subst h2
        rfl
      · rw [if_neg h2]
theorem r59_20 (s : Sh h) : zR h 59 20 = some 69 := by unfold Sh at s; simp only [s]
theorem k69 (s : Sh h) : kd h 69 = 14 := by unfold Sh at s; simp only [s]
theorem l69 (s : Sh h) : zl h 69 = 32768 := by unfold Sh at s; simp only [s]
theorem nar_b (b : Bool) : vp_nar .boolean (b2 b) = b2 b := by cases b <;> rfl
theorem fill_up {a b : Nat → Int32} {j : Nat} : va_up (fillF a b j) j (a j) = fillF a b (j + 1) := by
  funext k
  by_cases e : k = j
  · subst e
    rw [va_e, fill_in (by omega)]
  · rw [va_n _ _ _ _ e]
    unfold fillF
    by_cases p : k < j
    · rw [if_pos p, if_pos (by omega)]
    · rw [if_neg p, if_neg (by omega)]
theorem m_laysAll (s : Sh h) (e60 : zI h 60 = f) (i : Inv f) : F_X12_laysAll 59 h = some ((), mL h (sqT f (zI h 66) (8 ^ nG f)) (fillF (fun k => b2 (lI f k)) (zI h 69) (8 ^ nG f))) := by
  have p8 := pow8 (iG5 i)
  unfold F_X12_laysAll F_X12_laysAll_b0
  refine ob_p (iter_at (fun j => (nI j, mL h (sqT f (zI h 66) j) (fillF (fun k => b2 (lI f k)) (zI h 69) j))) (8 ^ nG f) _ ?_ (fun j hj => ?_) ?_ (FU_lt (by omega))) _
  · rw [fill_0]
    show _ = (nI 0, mL h (zI h 66) (zI h 69))
    rw [mL_0]
    rfl
  · show F_X12_laysAll_l2 59 (nI j) (mL h (sqT f (zI h 66) j) (fillF (fun k => b2 (lI f k)) (zI h 69) j)) = some (.inl (nI (j + 1), mL h (opF f j (sqT f (zI h 66) j)) (fillF (fun k => b2 (lI f k)) (zI h 69) (j + 1))))
    have s' : ∀ S B, Sh (mL h S B) := fun S B => s
    have e60' : ∀ S B, zI (mL h S B) 60 = f := fun S B => by rw [mL_o (by decide) (by decide), e60]
    have so : seated (mL h (opF f j (sqT f (zI h 66) j)) (fillF (fun k => b2 (lI f k)) (zI h 69) j)) 66 (nG f) (dg (nG f) j) := fun g hg => by
      rw [mL_66]
      exact ⟨fill_in hg, dg_lt _ _ _⟩
    unfold F_X12_laysAll_l2 F_X12_laysAll_b34 F_X12_laysAll_b35
    rw [m_many (s' _ _) (e60' _ _) i, ob_s, gd_d (k59 (s' _ _)), if_neg (nI_ge hj (by omega)), r59_20 (s' _ _), ob_s, m_opens (s' _ _) (e60' _ _) i hj, ob2_s, mL_66, mL_st, m_isLevel' (s' _ _) (e60' _ _) i so, ob_s, gd_d (k59 (s' _ _)), gd_d (k69 (s' _ _)), l69 (s' _ _), ix_t (by omega) (by omega), gd_t, gd_d (k69 (s' _ _)), gd_t, ncl (by omega), nI_1, mL_w, mL_w, ← fill_up]
    have el : lI f j = (vI f j && levS f (netS f 0 (dg (nG f) j)) (netS f 1 (dg (nG f) j)) (tin f)) := rfl
    rw [el]
    cases vI f j with
    | false => rfl
    | true =>
      cases levS f (netS f 0 (dg (nG f) j)) (netS f 1 (dg (nG f) j)) (tin f) with
      | false => rfl
      | true => rfl
  · show F_X12_laysAll_l2 59 (nI (8 ^ nG f)) _ = _
    unfold F_X12_laysAll_l2
    rw [m_many (mL_s s) (by rw [mL_o (by decide) (by decide), e60]) i, ob_s, gd_d (k59 (mL_s s)), if_pos (Int32.le_refl _)]
theorem m_order (s : Sh h) (e60 : zI h 60 = f) (i : Inv f) {sf : Nat → Nat} (hs : seated h 66 (nG f) sf) : F_X12_order 59 h = some (nI (ordS sf (nG f))) := by
  subst e60
  have g5 := iG5 i
  unfold F_X12_order F_X12_order_b0
  refine ob_p (iter_run (fun j => (nI (ordS sf j), nI j)) (nG (zI h 60)) _ (fun j hj => ?_) ?_ (FU_lt (by omega))) _
  · show F_X12_order_l4 59 (nI (ordS sf j)) (nI j) h = _
    unfold F_X12_order_l4
    rw [m_guests s, ob_s, gd_d (k59 s), iG i, if_neg (nI_ge hj (by omega)), r59_15 s, ob_s, gd_d (k66 s), l66 s, ix_t (by omega) (by omega), gd_t, ncl (by omega), (hs j hj).1, nl_8, nmul, nadd, nI_1]
    rfl
  · show F_X12_order_l4 59 _ (nI (nG (zI h 60))) h = _
    unfold F_X12_order_l4
    rw [m_guests s, ob_s, gd_d (k59 s), ← iG i, if_pos (Int32.le_refl _)]
/-- the seats as they are -/
def siF (f old : Nat → Int32) : Nat → Int32 := fillF (fun g => f (44 + 2 * g)) old (nG f)
theorem m_now (s : Sh h) (e60 : zI h 60 = f) (i : Inv f) : F_X12_now 59 h = some (nI (ordS (sit f) (nG f)), stH h 66 (siF f (zI h 66))) := by
  have e : hSit h = stH h 66 (siF f (zI h 66)) := by
    subst e60
    rfl
  have s' : Sh (hSit h) := s
  have hs : seated (hSit h) 66 (nG f) (sit f) := by
    subst e60
    exact hSit_s i
  unfold F_X12_now F_X12_now_b0
  have si : F_X12_sits 59 h = some ((), hSit h) := by
    subst e60
    exact m_sits s i
  rw [si, ob2_s, gd_d (k59 s), m_order s' (by rw [hSit_60, e60]) i hs, ob_s, gd_d (k59 s'), e]
/-- how many are elsewhere in the i-th order -/
def nwS (f : Nat → Int32) (s : Nat → Nat) (n : Nat) : Nat := fb_ct (fun g => !decide (s g = sit f g)) n
def nwI (f : Nat → Int32) (y : Nat) : Nat := nwS f (dg (nG f) y) (nG f)
theorem nwI_le (y : Nat) : nwI f y ≤ nG f := fb_ct_le _ _
/-- the best of the first orders -/
def wkB (f : Nat → Int32) : Nat → Option Nat
  | 0 => none
  | P + 1 => if lI f P then (match wkB f P with
    | none => some P
    | some b => if nwI f P < nwI f b then some P else some b) else wkB f P
theorem wkB_s (P : Nat) : wkB f (P + 1) = if lI f P then (match wkB f P with
    | none => some P
    | some b => if nwI f P < nwI f b then some P else some b) else wkB f P := rfl
theorem wkB_lt : ∀ {P b : Nat}, wkB f P = some b → b < P
  | 0, b, e => by cases e
  | P + 1, b, e => by
    rw [wkB_s] at e
    cases l : lI f P with
    | false =>
      rw [l, if_neg (by decide)] at e
      have := wkB_lt e
      omega
    | true =>
      rw [l, if_pos rfl] at e
      cases w : wkB f P with
      | none =>
        rw [w] at e
        cases e
        omega
      | some a =>
        rw [w] at e
        have := wkB_lt w
        dsimp only at e
        by_cases p : nwI f P < nwI f a
        · rw [if_pos p] at e
          cases e
          omega
        · rw [if_neg p] at e
          cases e
          omega
theorem m_wakeN (s : Sh h) (e60 : zI h 60 = f) (i : Inv f) {sf : Nat → Nat} (hs : seated h 66 (nG f) sf) (a b c d : Int32) : iter (fun z : Int32 × Int32 => F_X12_wake_l58 59 a b c d z.1 z.2 h) FU (0, 0) = some (nI (nwS f sf (nG f))) := by
  subst e60
  have g5 := iG5 i
  have r8 := iR8 i
  refine iter_run (fun j => (nI (nwS (zI h 60) sf j), nI j)) (nG (zI h 60)) _ (fun j hj => ?_) ?_ (FU_lt (by omega))
  · show F_X12_wake_l58 59 a b c d (nI (nwS (zI h 60) sf j)) (nI j) h = some (.inl (nI (nwS (zI h 60) sf j + (if !decide (sf j = sit (zI h 60) j) then 1 else 0)), nI (j + 1)))
    obtain ⟨h1, h2⟩ := hs j hj
    obtain ⟨-, e2, e3⟩ := igs i j hj
    unfold F_X12_wake_l58 F_X12_wake_b90
    rw [m_guests s, ob_s, gd_d (k59 s), iG i, if_neg (nI_ge hj (by omega)), r59_15 s, ob_s, gd_d (k66 s), l66 s, ix_t (by omega) (by omega), gd_t, ncl (by omega), m_roomOf s (by omega), ob_s, h1, e2, nl_0, nl_1, nadd, nadd, nadd]
    by_cases p : sf j = sit (zI h 60) j
    · rw [if_pos (by rw [p]), decide_eq_true p]
      rfl
    · rw [if_neg (fun z => p ((nI_eq (by omega) (by omega)).mp z)), decide_eq_false p]
      rfl
  · show F_X12_wake_l58 59 a b c d _ (nI (nG (zI h 60))) h = _
    unfold F_X12_wake_l58
    rw [m_guests s, ob_s, gd_d (k59 s), ← iG i, if_pos (Int32.le_refl _)]
def wkM (f : Nat → Int32) (o : Option Nat) : Int32 × Int32 := match o with
  | none => (-1, 6)
  | some b => (nI b, nI (nwI f b))
def wkC (f : Nat → Int32) (o : Option Nat) : Int32 × Int32 := match o with
  | none => (-1, -1)
  | some b => (nI (nwI f b), nI (numS (dg (nG f) b) (nG f)))
theorem b2_ne0 {b : Bool} : (b2 b = 0) = (b = false) := b2_0 b
theorem m_wakeL (s : Sh h) (e60 : zI h 60 = f) (i : Inv f) {S B : Nat → Int32} (hB : ∀ k, k < 8 ^ nG f → B k = b2 (lI f k)) (v : Int32) : ∃ S', iter (fun z : Int32 × Int32 × Int32 × Hp => F_X12_wake_l23 59 v z.1 z.2.1 z.2.2.1 z.2.2.2) FU (-1, 6, 0, mL h S B) = some ((wkM f (wkB f (8 ^ nG f))).1, (wkM f (wkB f (8 ^ nG f))).2, mL h S' B) := by
  have g5 := iG5 i
  have p8 := pow8 g5
  have s' : ∀ S B, Sh (mL h S B) := fun S B => s
  have e60' : ∀ S B, zI (mL h S B) 60 = f := fun S B => by rw [mL_o (by decide) (by decide), e60]
  have key := iter_cnt (body := fun z : Int32 × Int32 × Int32 × Hp => F_X12_wake_l23 59 v z.1 z.2.1 z.2.2.1 z.2.2.2) (s0 := (-1, 6, 0, mL h S B)) (fun j z => ∃ S', z = ((wkM f (wkB f j)).1, (wkM f (wkB f j)).2, nI j, mL h S' B)) (fun x => ∃ S', x = ((wkM f (wkB f (8 ^ nG f))).1, (wkM f (wkB f (8 ^ nG f))).2, mL h S' B)) (8 ^ nG f) (fun j z hj hI => ?_) (fun z hI => ?_) ⟨S, rfl⟩ (FU_lt (by omega))
  · obtain ⟨x, hx, S', hE⟩ := key
    exact ⟨S', by rw [hx, hE]⟩
  · obtain ⟨S1, rfl⟩ := hI
    have so : ∀ T, seated (mL h (opF f j T) B) 66 (nG f) (dg (nG f) j) := fun T g hg => by
      rw [mL_66]
      exact ⟨fill_in hg, dg_lt _ _ _⟩
    have nl := nwI_le (f := f) j
    show ∃ z', F_X12_wake_l23 59 v (wkM f (wkB f j)).1 (wkM f (wkB f j)).2 (nI j) (mL h S1 B) = some (.inl z') ∧ _
    unfold F_X12_wake_l23 F_X12_wake_b116
    rw [m_many (s' _ _) (e60' _ _) i, ob_s, gd_d (k59 (s' _ _)), if_neg (nI_ge hj (by omega)), r59_20 (s' _ _), ob_s, gd_d (k69 (s' _ _)), l69 (s' _ _), ix_t (by omega) (by omega), gd_t, ncl (by omega), mL_69, hB j hj, wkB_s, nI_1]
    cases l : lI f j with
    | false =>
      rw [b2_f, if_pos rfl, if_neg (by decide)]
      exact ⟨_, rfl, S1, rfl⟩
    | true =>
      rw [b2_t, if_neg (by decide), if_pos rfl, m_opens (s' _ _) (e60' _ _) i hj, ob2_s, mL_66, mL_st, m_wakeN (s' _ _) (e60' _ _) i (so S1), ob_s]
      change ∃ z', (if nI (nwI f j) < _ then _ else _) = _ ∧ _
      cases w : wkB f j with
      | none =>
        rw [if_pos (show nI (nwI f j) < (wkM f none).2 from (nI_lt (show nwI f j < 6 by omega) (by omega) : nI (nwI f j) < nI 6))]
        exact ⟨_, rfl, opF f j S1, rfl⟩
      | some b =>
        have nb := nwI_le (f := f) b
        dsimp only
        by_cases p : nwI f j < nwI f b
        · rw [if_pos (show nI (nwI f j) < (wkM f (some b)).2 from (nI_lt p (by omega) : nI (nwI f j) < nI (nwI f b))), if_pos p]
          exact ⟨_, rfl, opF f j S1, rfl⟩
        · rw [if_neg (show ¬ nI (nwI f j) < (wkM f (some b)).2 from (nI_nlt (by omega) (by omega) : ¬ nI (nwI f j) < nI (nwI f b))), if_neg p]
          exact ⟨_, rfl, opF f j S1, rfl⟩
  · obtain ⟨S1, rfl⟩ := hI
    refine ⟨_, ?_, S1, rfl⟩
    show F_X12_wake_l23 59 v _ _ (nI (8 ^ nG f)) (mL h S1 B) = _
    unfold F_X12_wake_l23
    rw [m_many (s' _ _) (e60' _ _) i, ob_s, gd_d (k59 (s' _ _)), if_pos (Int32.le_refl _)]
def wkA (f : Nat → Int32) (v : Int32) (o : Option Nat) : Int32 := match o with
  | none => -1
  | some b => if v = 0 then nI (nwI f b) else nI (numS (dg (nG f) b) (nG f))
theorem m_numberOf (s : Sh h) (e60 : zI h 60 = f) (i : Inv f) {y : Nat} (hy : y < 8 ^ nG f) : F_X12_numberOf 59 (nI y) h = some (nI (numS (dg (nG f) y) (nG f)), stH h 66 (opF f y (zI h 66))) := by
  have s' : Sh (stH h 66 (opF f y (zI h 66))) := s
  unfold F_X12_numberOf F_X12_numberOf_b0
  rw [m_opens s e60 i hy, ob2_s, gd_d (k59 s), m_told' s' (by rw [stH_o (by decide), e60]) i op_seat, ob_s, gd_d (k59 s')]
theorem mL_m {S B : Nat → Int32} : MN (zI h) (zI (mL h S B)) := fun a k q => by
  rw [mL_o (by unfold mNo at q; omega) (by unfold mNo at q; omega)]
theorem m_wake (s : Sh h) (e60 : zI h 60 = f) (i : Inv f) (v : Int32) : ∃ J, MN (zI h) J ∧ F_X12_wake 59 v h = some (wkA f v (wkB f (8 ^ nG f)), wI h J) := by
  have s' : ∀ S B, Sh (mL (t0 h) S B) := fun S B => s
  have e60' : ∀ S B, zI (mL (t0 h) S B) 60 = f := fun S B => by rw [mL_o (by decide) (by decide), t0_60, e60]
  obtain ⟨S', lp⟩ := m_wakeL (t0_s s) (t0_60.trans e60) i (S := siF f (sqT f (zI (t0 h) 66) (8 ^ nG f))) (B := fillF (fun k => b2 (lI f k)) (zI (t0 h) 69) (8 ^ nG f)) (fun k hk => fill_in hk) v
  unfold F_X12_wake F_X12_wake_b0
  rw [gd_d (k59 s), t0_d, m_laysAll (t0_s s) (t0_60.trans e60) i, ob2_s, m_now (s' _ _) (e60' _ _) i, ob2_s, gd_d (k59 (s' _ _)), mL_66, mL_st, lp, ob_s]
  show ∃ J, MN (zI h) J ∧ (if 0 ≤ (wkM f (wkB f (8 ^ nG f))).1 then _ else _) = _
  unfold F_X12_wake_b144
  cases w : wkB f (8 ^ nG f) with
  | none =>
    refine ⟨_, MN_t t0_m (mL_m (S := S') (B := fillF (fun k => b2 (lI f k)) (zI (t0 h) 69) (8 ^ nG f))), ?_⟩
    show (if (0 : Int32) ≤ -1 then _ else _) = _
    rw [if_neg (show ¬ (0 : Int32) ≤ -1 by decide)]
    rfl
  | some b =>
    have hb := wkB_lt w
    have p8 := pow8 (iG5 i)
    show ∃ J, MN (zI h) J ∧ (if 0 ≤ nI b then _ else _) = _
    rw [if_pos (show 0 ≤ nI b from nI_pos' (by omega))]
    by_cases p : v = 0
    · refine ⟨_, MN_t t0_m (mL_m (S := S') (B := fillF (fun k => b2 (lI f k)) (zI (t0 h) 69) (8 ^ nG f))), ?_⟩
      rw [if_pos p]
      unfold wkA
      dsimp only
      rw [if_pos p]
      rfl
    · refine ⟨_, MN_t t0_m (mL_m (S := opF f b S') (B := fillF (fun k => b2 (lI f k)) (zI (t0 h) 69) (8 ^ nG f))), ?_⟩
      rw [if_neg p]
      show ob2 (F_X12_numberOf 59 (nI b) (mL (t0 h) S' _)) _ = _
      rw [m_numberOf (s' _ _) (e60' _ _) i hb, ob2_s, gd_d (k59 (s' _ _)), mL_66, mL_st]
      unfold wkA
      dsimp only
      rw [if_neg p]
      rfl
end WAKE
