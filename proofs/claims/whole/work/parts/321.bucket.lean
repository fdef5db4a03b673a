/-! CALL: bucket -/
section BUCKET
variable {h : Hp}
def bkL (f : Nat → Int32) (w r : Nat) : Bool := levS f (netS f 0 (sit f) + nI (w + 1) * f (11 + 4 * r)) (netS f 1 (sit f) + nI (w + 1) * f (12 + 4 * r)) (tin f)
def bk1 (f : Nat → Int32) (w r : Nat) : List Nat := if bkL f w r then [8 * w + r] else []
def bk0 (f : Nat → Int32) (w : Nat) : List Nat := cl (bk1 f w) (nR f)
theorem x_b73 (s : Sh h) (i : Inv (zI h 60)) (c : HR (zI h) 3 (zI h 60)) (v : Int32) (w : Nat) : (bk0 (zI h 60) w = [] ∧ iter (fun z : Int32 => F_X11_bucket_l73 0 v (netS (zI h 60) 0 (sit (zI h 60))) (netS (zI h 60) 1 (sit (zI h 60))) (nI (w + 1)) z h) FU 0 = some (.inl ())) ∨ (∃ d t x, bk0 (zI h 60) w = d :: t ∧ iter (fun z : Int32 => F_X11_bucket_l73 0 v (netS (zI h 60) 0 (sit (zI h 60))) (netS (zI h 60) 1 (sit (zI h 60))) (nI (w + 1)) z h) FU 0 = some x ∧ ∃ r, x = .inr (nI r) ∧ d = 8 * w + r ∧ r < 8) := by
  have r8 := iR8 i
  have c0 : zI h 3 0 = nI (nR (zI h 60)) := c.1.1.trans (iR i)
  refine iter_sc0 (fun j => nI j) (bk1 (zI h 60) w) (Sum.inl ()) _ (nR (zI h 60)) rfl (fun j hj => ?_) ?_ (FU_lt (by omega))
  · have e : F_X11_bucket_l73 0 v (netS (zI h 60) 0 (sit (zI h 60))) (netS (zI h 60) 1 (sit (zI h 60))) (nI (w + 1)) (nI j) h = if bkL (zI h 60) w j then some (.inr (.inr (nI j))) else some (.inl (nI (j + 1))) := by
      obtain ⟨c1, c2, -⟩ := c.2.1 j (by omega)
      have d1 : zI h 4 j = zI h 60 (11 + 4 * j) := c1
      have d2 : zI h 5 j = zI h 60 (12 + 4 * j) := c2
      unfold F_X11_bucket_l73
      rw [gd_d (k0 s), r0_1 s, ob_s, gd_d (k3 s), c0, if_neg (nI_ge hj (by omega)), ob_s, ob_s, gd_d (k3 s), r3_1 s, ob_s, gd_d (k4 s), l4 s, ix_t (by omega) (by omega), gd_t, ob_s, gd_d (k3 s), r3_2 s, ob_s, gd_d (k5 s), l5 s, ix_t (by omega) (by omega), gd_t, ob_s, gd_d (k3 s), r3_9 s, ob_s, ncl (by omega), d1, d2, x_isLevelAt s i c (tv11 s i c), ob_s, gd_d (k3 s), nI_1]
      show (if b2 (bkL (zI h 60) w j) = 0 then _ else _) = _
      cases bkL (zI h 60) w j <;> rfl
    have eF : bk1 (zI h 60) w j = if bkL (zI h 60) w j then [8 * w + j] else [] := rfl
    rw [eF]
    cases q : bkL (zI h 60) w j with
    | false => exact Or.inl ⟨rfl, by rw [q] at e; exact e⟩
    | true => exact Or.inr ⟨_, [], .inr (nI j), rfl, by rw [q] at e; exact e, j, rfl, rfl, by omega⟩
  · show F_X11_bucket_l73 0 v _ _ (nI (w + 1)) (nI (nR (zI h 60))) h = _
    unfold F_X11_bucket_l73
    rw [gd_d (k0 s), r0_1 s, ob_s, gd_d (k3 s), c0, if_pos (Int32.le_refl _)]
theorem x_b62 (s : Sh h) (i : Inv (zI h 60)) (c : HR (zI h) 3 (zI h 60)) (v : Int32) : (cl (bk0 (zI h 60)) 300 = [] ∧ iter (fun z : Int32 => F_X11_bucket_l62 0 v (netS (zI h 60) 0 (sit (zI h 60))) (netS (zI h 60) 1 (sit (zI h 60))) z h) FU 1 = some (.inl ())) ∨ (∃ d t x, cl (bk0 (zI h 60)) 300 = d :: t ∧ iter (fun z : Int32 => F_X11_bucket_l62 0 v (netS (zI h 60) 0 (sit (zI h 60))) (netS (zI h 60) 1 (sit (zI h 60))) z h) FU 1 = some x ∧ ∃ w r, x = .inr (nI (w + 1), nI r) ∧ d = 8 * w + r ∧ r < 8) := by
  refine iter_sc0 (fun j => nI (j + 1)) (bk0 (zI h 60)) (Sum.inl ()) _ 300 rfl (fun j hj => ?_) ?_ (FU_lt (by omega))
  · rcases x_b73 s i c v j with ⟨q1, q2⟩ | ⟨d, t, x, q1, q2, r, q3, q4, q5⟩
    · refine Or.inl ⟨q1, ?_⟩
      show F_X11_bucket_l62 0 v _ _ (nI (j + 1)) h = _
      unfold F_X11_bucket_l62
      rw [nl_300, if_neg (nI_nlt (by omega) (by omega)), q2, ob_s, sm_l, nI_1]
    · refine Or.inr ⟨d, t, .inr (nI (j + 1), nI r), q1, ?_, j, r, rfl, q4, q5⟩
      show F_X11_bucket_l62 0 v _ _ (nI (j + 1)) h = _
      unfold F_X11_bucket_l62
      rw [nl_300, if_neg (nI_nlt (by omega) (by omega)), q2, ob_s, q3, sm_r]
  · show F_X11_bucket_l62 0 v _ _ (nI (300 + 1)) h = _
    unfold F_X11_bucket_l62
    rw [if_pos (by decide)]
def bkS2 (f : Nat → Int32) (y : Bool) : Int32 := if levS f (netS f 0 (sit f)) (netS f 1 (sit f)) (tin f) then (if y then -1 else 0) else match cl (bk0 f) 300 with
  | [] => -1
  | d :: _ => if y then nI (d % 8) else nI (d / 8 + 1)
theorem x_bucket (s : Sh h) (i : Inv (zI h 60)) (c : HR (zI h) 3 (zI h 60)) (y : Bool) : F_X11_bucket 0 (b2 y) h = some (bkS2 (zI h 60) y) := by
  unfold F_X11_bucket F_X11_bucket_b0 F_X11_bucket_b58 F_X11_bucket_b143 bkS2
  rw [gd_d (k0 s), r0_1 s, ob_s, ob_s, gd_d (k3 s), r3_1 s, ob_s, x_net s i c (pl4 s c), ob_s, gd_d (k3 s), ob_s, ob_s, gd_d (k3 s), r3_2 s, ob_s, x_net s i c (pl5 s c), ob_s, gd_d (k3 s), ob_s, ob_s, gd_d (k3 s), r3_9 s, ob_s, x_isLevelAt s i c (tv11 s i c), ob_s, gd_d (k3 s)]
  cases q : levS (zI h 60) (netS (zI h 60) 0 (sit (zI h 60))) (netS (zI h 60) 1 (sit (zI h 60))) (tin (zI h 60)) with
  | true =>
    rw [b2_t, if_neg (by decide), if_pos rfl]
    cases y <;> rfl
  | false =>
    rw [b2_f, if_pos rfl, if_neg (by decide)]
    rcases x_b62 s i c (b2 y) with ⟨q1, q2⟩ | ⟨d, t, x, q1, q2, w, r, q3, q4, q5⟩
    · refine (ob_p q2 _).trans ?_
      rw [sm_l, q1]
    · refine (ob_p q2 _).trans ?_
      rw [q3, sm_r, q1]
      show (if b2 y = 0 then some (nI (w + 1)) else some (nI r)) = some (if y then nI (d % 8) else nI (d / 8 + 1))
      rw [show d % 8 = r by omega, show d / 8 = w by omega]
      cases y <;> rfl
-- the reference
def bkH (h : Hp) (a b : Int32) : Hp := wI h (va_up (zI h) 59 (va_up (va_up (zI h 59) 27 a) 28 b))
theorem bk_27 {a b a2 : Int32} : setI (bkH h a b) 59 27 a2 = bkH h a2 b := by
  unfold bkH
  rw [setI_w, wI_I, wI_w, up2_va]
  congr 2
  funext k
  by_cases h1 : k = 27
  · subst h1
    rw [va_e, va_n _ _ _ _ (by decide), va_e]
  · rw [va_n _ _ _ _ h1]
    by_cases h2 : k = 28
    · subst h2
      rw [va_e, va_e]
    · rw [va_n _ _ _ _ h2, va_n _ _ _ _ h1, va_n _ _ _ _ h2, va_n _ _ _ _ h1]
theorem bk_28 {a b b2 : Int32} : setI (bkH h a b) 59 28 b2 = bkH h a b2 := by
  unfold bkH
  rw [setI_w, wI_I, wI_w, up2_va]
  congr 2
  funext k
  by_cases h2 : k = 28
  · subst h2
    rw [va_e, va_e]
  · rw [va_n _ _ _ _ h2, va_n _ _ _ _ h2, va_n _ _ _ _ h2]
theorem bk_i {a b : Int32} : setI (setI h 59 27 a) 59 28 b = bkH h a b := by
  show wI h (up2 (va_up (zI h) 59 (va_up (zI h 59) 27 a)) 59 28 b) = _
  rw [up2_va]
  rfl
theorem bk_a {a b : Int32} : zI (bkH h a b) 59 27 = a := by
  unfold bkH
  rw [wv_e, va_n _ _ _ _ (by decide), va_e]
theorem bk_b {a b : Int32} : zI (bkH h a b) 59 28 = b := by
  unfold bkH
  rw [wv_e, va_e]
theorem bk_60 {a b : Int32} : zI (bkH h a b) 60 = zI h 60 := wv_n (by decide)
theorem bk_66 {a b : Int32} : zI (bkH h a b) 66 = zI h 66 := wv_n (by decide)
theorem bk_m {a b : Int32} : MN (zI h) (zI (bkH h a b)) := fun p k q => by
  by_cases hp : p = 59
  · subst hp
    unfold bkH
    rw [wv_e, va_n _ _ _ _ (by unfold mNo at q; omega), va_n _ _ _ _ (by unfold mNo at q; omega)]
  · unfold bkH
    rw [wv_n hp]
theorem m_b43 {f : Nat → Int32} (s : Sh h) (i : Inv f) (e60 : zI h 60 = f) (hs : seated h 66 (nG f) (sit f)) (w : Nat) : (bk0 f w = [] ∧ iter (fun z : Hp => F_X12_hangs_l43 59 z) FU (bkH h (nI (w + 1)) 0) = some (.inl (bkH h (nI (w + 1)) (nI (nR f))))) ∨ (∃ d t, bk0 f w = d :: t ∧ ∃ r, iter (fun z : Hp => F_X12_hangs_l43 59 z) FU (bkH h (nI (w + 1)) 0) = some (.inr (bkH h (nI (w + 1)) (nI r))) ∧ d = 8 * w + r ∧ r < 8) := by
  have r8 := iR8 i
  have st : ∀ j, Sh (bkH h (nI (w + 1)) (nI j)) := fun j => s
  have es : ∀ j, zI (bkH h (nI (w + 1)) (nI j)) 60 = f := fun j => bk_60.trans e60
  have ei : ∀ j, Inv (zI (bkH h (nI (w + 1)) (nI j)) 60) := fun j => by rw [es]; exact i
  have se : ∀ j, seated (bkH h (nI (w + 1)) (nI j)) 66 (nG (zI (bkH h (nI (w + 1)) (nI j)) 60)) (sit f) := fun j => by
    rw [es]
    intro g hg
    rw [bk_66]
    exact hs g hg
  have := iter_sc0 (body := fun z : Hp => F_X12_hangs_l43 59 z) (s0 := bkH h (nI (w + 1)) 0) (fun j => bkH h (nI (w + 1)) (nI j)) (bk1 f w) (Sum.inl (bkH h (nI (w + 1)) (nI (nR f)))) (fun d x => ∃ r, x = .inr (bkH h (nI (w + 1)) (nI r)) ∧ d = 8 * w + r ∧ r < 8) (nR f) rfl (fun j hj => ?_) ?_ (FU_lt (by omega))
  · rcases this with ⟨q1, q2⟩ | ⟨d, t, x, q1, q2, r, q3, q4, q5⟩
    · exact Or.inl ⟨q1, q2⟩
    · exact Or.inr ⟨d, t, q1, r, by rw [q2, q3], q4, q5⟩
  · have e : F_X12_hangs_l43 59 (bkH h (nI (w + 1)) (nI j)) = if bkL f w j then some (.inr (.inr (bkH h (nI (w + 1)) (nI j)))) else some (.inl (bkH h (nI (w + 1)) (nI (j + 1)))) := by
      unfold F_X12_hangs_l43 F_X12_hangs_b112
      rw [gd_d (k59 (st j)), m_rooms (st j), ob_s, es, iR i, bk_b, if_neg (nI_ge hj (by omega)), nl_0, m_net (st j) (ei j) (by omega) (se j), ob_s, bk_a, es, nI_1, bk_28]
      rw [show F_X12_ofRoom 59 (nI j) (nI 0) (bkH h (nI (w + 1)) (nI j)) = some (f (11 + 4 * j)) by rw [← es j]; exact m_ofX (st j) (by omega), ob_s, m_isLevelBy (st j) (ei j) (by omega), ob_s, es, nl_1, m_net (st j) (ei j) (by omega) (se j), ob_s, es]
      rw [show F_X12_ofRoom 59 (nI j) (nI 1) (bkH h (nI (w + 1)) (nI j)) = some (f (12 + 4 * j)) by rw [← es j]; exact m_ofY (st j) (by omega), ob_s, m_isLevelBy (st j) (ei j) (by omega), ob_s, es, gd_d (k59 (st j))]
      unfold bkL levS
      cases lev1 f 0 (netS f 0 (sit f) + nI (w + 1) * f (11 + 4 * j)) (tin f) <;> cases lev1 f 1 (netS f 1 (sit f) + nI (w + 1) * f (12 + 4 * j)) (tin f) <;> rfl
    have eF : bk1 f w j = if bkL f w j then [8 * w + j] else [] := rfl
    rw [eF]
    cases q : bkL f w j with
    | false => exact Or.inl ⟨rfl, by rw [q] at e; exact e⟩
    | true => exact Or.inr ⟨_, [], _, rfl, by rw [q] at e; exact e, j, rfl, rfl, by omega⟩
  · show F_X12_hangs_l43 59 (bkH h (nI (w + 1)) (nI (nR f))) = _
    unfold F_X12_hangs_l43
    rw [gd_d (k59 (st _)), m_rooms (st _), ob_s, es, iR i, bk_b, if_pos (Int32.le_refl _)]
theorem m_b28 {f : Nat → Int32} (s : Sh h) (i : Inv f) (e60 : zI h 60 = f) (hs : seated h 66 (nG f) (sit f)) : (cl (bk0 f) 300 = [] ∧ ∃ a b, iter (fun z : Hp => F_X12_hangs_l28 59 z) FU (bkH h 1 (-1)) = some (.inl (bkH h a b))) ∨ (∃ d t, cl (bk0 f) 300 = d :: t ∧ ∃ w r, iter (fun z : Hp => F_X12_hangs_l28 59 z) FU (bkH h 1 (-1)) = some (.inr (bkH h (nI (w + 1)) (nI r))) ∧ d = 8 * w + r ∧ r < 8) := by
  have := iter_sc0 (body := fun z : Hp => F_X12_hangs_l28 59 z) (s0 := bkH h 1 (-1)) (fun j => bkH h (nI (j + 1)) (if j = 0 then -1 else nI (nR f))) (bk0 f) (Sum.inl (bkH h (nI (300 + 1)) (nI (nR f)))) (fun d x => ∃ w r, x = .inr (bkH h (nI (w + 1)) (nI r)) ∧ d = 8 * w + r ∧ r < 8) 300 rfl (fun j hj => ?_) ?_ (FU_lt (by omega))
  · rcases this with ⟨q1, q2⟩ | ⟨d, t, x, q1, q2, w, r, q3, q4, q5⟩
    · exact Or.inl ⟨q1, _, _, q2⟩
    · exact Or.inr ⟨d, t, q1, w, r, by rw [q2, q3], q4, q5⟩
  · have s' : Sh (bkH h (nI (j + 1)) (if j = 0 then -1 else nI (nR f))) := s
    have s2 : Sh (bkH h (nI (j + 1)) (nI (nR f))) := s
    rcases m_b43 s i e60 hs j with ⟨q1, q2⟩ | ⟨d, t, q1, r, q2, q3, q4⟩
    · refine Or.inl ⟨q1, ?_⟩
      show F_X12_hangs_l28 59 (bkH h (nI (j + 1)) (if j = 0 then -1 else nI (nR f))) = some (Sum.inl (bkH h (nI (j + 1 + 1)) (if j + 1 = 0 then -1 else nI (nR f))))
      unfold F_X12_hangs_l28
      rw [gd_d (k59 s'), bk_a, nl_300, if_neg (nI_nlt (by omega) (by omega)), bk_28, q2, ob_s, sm_l, gd_d (k59 s2), bk_a, bk_27, nI_1, if_neg (by omega)]
    · refine Or.inr ⟨d, t, _, q1, ?_, j, r, rfl, q3, q4⟩
      show F_X12_hangs_l28 59 (bkH h (nI (j + 1)) (if j = 0 then -1 else nI (nR f))) = _
      unfold F_X12_hangs_l28
      rw [gd_d (k59 s'), bk_a, nl_300, if_neg (nI_nlt (by omega) (by omega)), bk_28, q2, ob_s, sm_r]
  · show F_X12_hangs_l28 59 (bkH h (nI (300 + 1)) (nI (nR f))) = _
    have s' : Sh (bkH h (nI (300 + 1)) (nI (nR f))) := s
    unfold F_X12_hangs_l28
    rw [gd_d (k59 s'), bk_a, nl_300, if_pos (nI_lt (by omega) (by omega))]
theorem m_bucket (s : Sh h) (i : Inv (zI h 60)) (y : Bool) : ∃ a b, F_X12_bucket 59 (b2 y) h = some (bkS2 (zI h 60) y, bkH (hT h) a b) := by
  have sT := hT_sh s
  have hs := hT_s i
  have e60 : zI (hT h) 60 = zI h 60 := hT_60
  have sB : ∀ a b, Sh (bkH (hT h) a b) := fun a b => sT
  have lv : F_X12_isLevel 59 (bkH (hT h) 0 (-1)) = some (b2 (levS (zI h 60) (netS (zI h 60) 0 (sit (zI h 60))) (netS (zI h 60) 1 (sit (zI h 60))) (tin (zI h 60)))) := by
    have ee : zI (bkH (hT h) 0 (-1)) 60 = zI h 60 := bk_60.trans hT_60
    have := m_isLevel (sB 0 (-1)) (by rw [ee]; exact i) (sf := sit (zI h 60)) (by
      rw [ee]
      intro g hg
      rw [bk_66]
      exact hs g hg)
    rw [ee] at this
    exact this
  unfold F_X12_bucket F_X12_bucket_b0 F_X12_bucket_b31 F_X12_hangs F_X12_hangs_b0 bkS2
  rw [gd_d (k59 s), t0_d, m_sitsT s i, ob2_s, gd_d (k59 (t0_s s)), gd_d (k59 sT), bk_i, lv, ob_s]
  cases q : levS (zI h 60) (netS (zI h 60) 0 (sit (zI h 60))) (netS (zI h 60) 1 (sit (zI h 60))) (tin (zI h 60)) with
  | true =>
    refine ⟨0, -1, ?_⟩
    rw [b2_t, if_neg (by decide), ob2_s, if_neg (by decide), if_pos rfl, gd_d (k59 (sB _ _)), gd_d (k59 (sB _ _)), bk_a, bk_b]
    cases y <;> rfl
  | false =>
    rw [b2_f, if_pos rfl, if_neg (by decide), bk_27]
    rcases m_b28 sT i e60 hs with ⟨q1, a, b, q2⟩ | ⟨d, t, q1, w, r, q2, q3, q4⟩
    · refine ⟨a, b, ?_⟩
      rw [ob_p q2, sm_l, ob2_s, if_pos rfl, q1]
    · refine ⟨nI (w + 1), nI r, ?_⟩
      rw [ob_p q2, sm_r, ob2_s, if_neg (by decide), gd_d (k59 (sB _ _)), gd_d (k59 (sB _ _)), bk_a, bk_b, q1]
      show _ = some ((if y then nI (d % 8) else nI (d / 8 + 1)), _)
      rw [show d % 8 = r by omega, show d / 8 = w by omega]
      cases y <;> rfl
theorem j_bucket (g : GS h) (y : Bool) : JR h (F_X11_bucket 0 (b2 y)) (F_X12_bucket 59 (b2 y)) := by
  obtain ⟨s, i, c, -⟩ := id g
  obtain ⟨a, b, e⟩ := m_bucket s i y
  exact JR_m g (x_bucket s i c y) (J := zI (bkH (hT h) a b)) e (MN_t hT_m bk_m)
end BUCKET
