/-! THE REFERENCE: how far all is from a seating -/
theorem mem_cl {F : Nat → List Nat} {x : Nat} : ∀ {n : Nat}, x ∈ cl F n ↔ ∃ j, j < n ∧ x ∈ F j
  | 0 => ⟨fun h => (by cases h), fun ⟨j, hj, _⟩ => absurd hj (by omega)⟩
  | n + 1 => by
    rw [cl_s, List.mem_append, mem_cl]
    constructor
    · rintro (⟨j, hj, h⟩ | h)
      · exact ⟨j, by omega, h⟩
      · exact ⟨n, by omega, h⟩
    · rintro ⟨j, hj, h⟩
      by_cases e : j = n
      · subst e
        exact Or.inr h
      · exact Or.inl ⟨j, by omega, h⟩
section FARS
variable {h : Hp} {f : Nat → Int32}
def fe (o : Option Nat) : Int32 := match o with
  | none => -1
  | some d => nI d
/-- where one bell leads, guest by guest -/
def nbR (f : Nat → Int32) (y g : Nat) (R : Nat) : List Nat := cl (fun r => [nbr (nG f) y g r]) R
def nbB (f : Nat → Int32) (y : Nat) : List Nat := cl (fun g => nbR f y g (nR f)) (nG f)
theorem mem_nbB {x y : Nat} : x ∈ nbB f y ↔ ∃ g, g < nG f ∧ ∃ r, r < nR f ∧ x = nbr (nG f) y g r := by
  unfold nbB nbR
  rw [mem_cl]
  constructor
  · rintro ⟨g, hg, h⟩
    rw [mem_cl] at h
    obtain ⟨r, hr, h⟩ := h
    exact ⟨g, hg, r, hr, by simpa using h⟩
  · rintro ⟨g, hg, r, hr, h⟩
    refine ⟨g, hg, ?_⟩
    rw [mem_cl]
    exact ⟨r, hr, by simp [h]⟩
theorem nbB_lt (i : Inv f) {x y : Nat} (hx : x < 8 ^ nG f) (hy : y ∈ nbB f x) : y < 8 ^ nG f := by
  obtain ⟨g, hg, r, hr, rfl⟩ := mem_nbB.mp hy
  have r8 := iR8 i
  exact nbr_lt hx hg (by omega)
theorem m_sent (s : Sh h) (e60 : zI h 60 = f) (i : Inv f) {y g r : Nat} (hy : y < 8 ^ nG f) (hg : g < nG f) (hr : r < 8) : F_X12_sent 59 (nI y) (nI g) (nI r) h = some (nI (nbr (nG f) y g r)) := by
  have g5 := iG5 i
  have p8 := pow8 g5
  have pk : 8 ^ (nG f - 1 - g) ≤ 32768 := pow8 (by omega)
  have pp := p8p (nG f - 1 - g)
  have lp : iter (fun z : Int32 × Int32 => F_X12_sent_l11 (nI y) (nI g) (nI r) z.1 z.2 h) FU (1, nI (nG f - 1)) = some (nI (8 ^ (nG f - 1 - g))) := by
    refine iter_at (fun t => (nI (8 ^ t), nI (nG f - 1 - t))) (nG f - 1 - g) _ rfl (fun t ht => ?_) ?_ (FU_lt (by omega))
    · show F_X12_sent_l11 (nI y) (nI g) (nI r) (nI (8 ^ t)) (nI (nG f - 1 - t)) h = _
      unfold F_X12_sent_l11
      rw [if_neg (nI_ge (by omega) (by omega)), nl_8, nmul, nsub1 (by omega), show nG f - 1 - t - 1 = nG f - 1 - (t + 1) by omega, ← Nat.pow_succ]
    · show F_X12_sent_l11 (nI y) (nI g) (nI r) _ (nI (nG f - 1 - (nG f - 1 - g))) h = _
      unfold F_X12_sent_l11
      rw [if_pos (nI_le (by omega) (by omega))]
  have hd : y / 8 ^ (nG f - 1 - g) ≤ y := Nat.div_le_self _ _
  unfold F_X12_sent F_X12_sent_b0
  rw [m_guests s, ob_s, gd_d (k59 s), e60, iG i, npred (by omega), lp, ob_s, gd_d (nI_ne0 pp (by omega)), pk_div (by omega) pp (by omega), nl_8, pk_rem (by omega) (by omega) (by omega)]
  congr 1
  have e := rep_sum y (nG f - 1 - g) r
  have e2 : nI y + nI (r * 8 ^ (nG f - 1 - g)) = nI (nbr (nG f) y g r) + nI (nd y (nG f - 1 - g) * 8 ^ (nG f - 1 - g)) := by
    rw [nI_add, nI_add]
    unfold nbr
    rw [e]
  show nI y + (nI r - nI (nd y (nG f - 1 - g))) * nI (8 ^ (nG f - 1 - g)) = nI (nbr (nG f) y g r)
  rw [Int32.sub_mul, nmul, nmul, Int32.sub_eq_add_neg (nI (r * 8 ^ (nG f - 1 - g))), ← Int32.add_assoc, e2, ← Int32.sub_eq_add_neg, Int32.add_sub_cancel]
theorem r59_21 (s : Sh h) : zR h 59 21 = some 70 := by unfold Sh at s; simp only [s]
theorem r59_22 (s : Sh h) : zR h 59 22 = some 71 := by unfold Sh at s; simp only [s]
theorem k70 (s : Sh h) : kd h 70 = 13 := by unfold Sh at s; simp only [s]
theorem k71 (s : Sh h) : kd h 71 = 13 := by unfold Sh at s; simp only [s]
theorem l70 (s : Sh h) : zl h 70 = 32768 := by unfold Sh at s; simp only [s]
theorem l71 (s : Sh h) : zl h 71 = 32768 := by unfold Sh at s; simp only [s]
def mB (h : Hp) (F Q : Nat → Int32) : Hp := wI h (va_up (va_up (zI h) 70 F) 71 Q)
theorem mB_70 {F Q : Nat → Int32} : zI (mB h F Q) 70 = F := by
  unfold mB
  rw [wI_I, va_n _ _ _ _ (by decide), va_e]
theorem mB_71 {F Q : Nat → Int32} : zI (mB h F Q) 71 = Q := by
  unfold mB
  rw [wI_I, va_e]
theorem mB_o {F Q : Nat → Int32} {a : Nat} (h1 : a ≠ 70) (h2 : a ≠ 71) : zI (mB h F Q) a = zI h a := by
  unfold mB
  rw [wI_I, va_n _ _ _ _ h2, va_n _ _ _ _ h1]
theorem mB_at {F Q : Nat → Int32} (a : Nat) : zI (mB h F Q) a = if a = 71 then Q else if a = 70 then F else zI h a := by
  by_cases h1 : a = 71
  · subst h1
    exact mB_71
  · rw [if_neg h1]
    by_cases h2 : a = 70
    · subst h2
      exact mB_70
    · rw [if_neg h2, mB_o h2 h1]
theorem mB_e {F Q : Nat → Int32} {J : Nat → Nat → Int32} (e : ∀ a, J a = if a = 71 then Q else if a = 70 then F else zI h a) : wI h J = mB h F Q := by
  have : J = zI (mB h F Q) := by
    funext a
    rw [e a, mB_at]
  rw [this]
  rfl
theorem mB_w70 {F Q : Nat → Int32} {k : Nat} {v : Int32} : setI (mB h F Q) 70 k v = mB h (va_up F k v) Q := by
  rw [setI_w]
  show wI h _ = _
  refine mB_e (fun a => ?_)
  by_cases h1 : a = 70
  · subst h1
    rw [up2_v1, mB_70]
    rfl
  · rw [up2_a _ _ _ _ _ h1, mB_at, if_neg h1, if_neg h1]
theorem mB_w71 {F Q : Nat → Int32} {k : Nat} {v : Int32} : setI (mB h F Q) 71 k v = mB h F (va_up Q k v) := by
  rw [setI_w]
  show wI h _ = _
  refine mB_e (fun a => ?_)
  by_cases h1 : a = 71
  · subst h1
    rw [up2_v1, mB_71]
    rfl
  · rw [up2_a _ _ _ _ _ h1, mB_at, if_neg h1, if_neg h1]
theorem mB_0 : mB h (zI h 70) (zI h 71) = h := by
  rw [← mB_e (h := h) (J := zI h) (fun a => ?_)]
  · exact wI_0 h
  · by_cases h1 : a = 71
    · subst h1
      rfl
    · rw [if_neg h1]
      by_cases h2 : a = 70
      · subst h2
        rfl
      · rw [if_neg h2]
theorem fe_none : fe none = -1 := rfl
theorem fe_some (d : Nat) : fe (some d) = nI d := rfl
/-- far and queue hold the state of the search -/
def rB (N : Nat) (S : BS) (F Q : Nat → Int32) : Prop := (∀ y, y < N → F y = fe (S.1 y)) ∧ ∀ j, j < S.2.2 → Q j = nI (S.2.1 j)
theorem rB_up {N : Nat} {S : BS} {F Q : Nat → Int32} (r : rB N S F Q) {y v : Nat} : rB N (va_up S.1 y (some v), va_up S.2.1 S.2.2 y, S.2.2 + 1) (va_up F y (nI v)) (va_up Q S.2.2 (nI y)) := by
  constructor
  · intro z hz
    show va_up F y (nI v) z = fe (va_up S.1 y (some v) z)
    by_cases e : z = y
    · subst e
      rw [va_e, va_e]
      rfl
    · rw [va_n _ _ _ _ e, va_n _ _ _ _ e]
      exact r.1 z hz
  · intro j hj
    show va_up Q S.2.2 (nI y) j = nI (va_up S.2.1 S.2.2 y j)
    have hj' : j < S.2.2 + 1 := hj
    by_cases e : j = S.2.2
    · subst e
      rw [va_e, va_e]
    · rw [va_n _ _ _ _ e, va_n _ _ _ _ e]
      exact r.2 j (by omega)
theorem m_far1 (s : Sh h) (e60 : zI h 60 = f) (i : Inv f) (lv : ∀ k, k < 8 ^ nG f → zI h 69 k = b2 (lI f k)) {T k g r : Nat} {S : BS} {F Q : Nat → Int32} (v : bV (lI f) (nbB f) (8 ^ nG f) T k S) (hk : k < S.2.2) (b : rB (8 ^ nG f) S F Q) (hg : g < nG f) (hr : r < nR f) : ∃ F' Q', F_X12_fars_l71 59 (nI S.2.2) (nI k) (nI g) (nI r) (mB h F Q) = some (.inl (nI (bst (lI f) (dd S k + 1) S (nbr (nG f) (S.2.1 k) g r)).2.2, nI (r + 1), mB h F' Q')) ∧ rB (8 ^ nG f) (bst (lI f) (dd S k + 1) S (nbr (nG f) (S.2.1 k) g r)) F' Q' := by
  have g5 := iG5 i
  have r8 := iR8 i
  have p8 := pow8 g5
  have s' : ∀ F Q, Sh (mB h F Q) := fun _ _ => s
  have e60' : ∀ F Q, zI (mB h F Q) 60 = f := fun _ _ => by rw [mB_o (by decide) (by decide), e60]
  have hx := (v.2.1 k hk).1
  have hy : nbr (nG f) (S.2.1 k) g r < 8 ^ nG f := nbr_lt hx hg (by omega)
  have hm : nbr (nG f) (S.2.1 k) g r ∈ nbB f (S.2.1 k) := mem_nbB.mpr ⟨g, hg, r, hr, rfl⟩
  obtain ⟨v1, -, -, -⟩ := bst_v v hk hm hy
  have al := bV_all v
  have al1 := bV_all v1
  have dk := bV_dj v hk
  have er : zI (mB h F Q) 60 0 = nI (nR f) := by rw [e60', iR i]
  unfold F_X12_fars_l71 F_X12_fars_b150
  rw [m_rooms (s' _ _), ob_s, gd_d (k59 (s' _ _)), er, if_neg (nI_ge hr (by omega)), r59_22 (s' _ _), ob_s, gd_d (k71 (s' _ _)), l71 (s' _ _), ix_t (by omega) (by omega), gd_t, ncl (by omega), mB_71, b.2 k hk, m_sent (s' _ _) (e60' _ _) i hx hg (by omega), ob_s]
  generalize nbr (nG f) (S.2.1 k) g r = y at *
  rw [r59_21 (s' _ _), ob_s, gd_d (k70 (s' _ _)), l70 (s' _ _), ix_t (by omega) (by omega), gd_t, ncl (by omega), mB_70, b.1 y hy, r59_20 (s' _ _), ob_s, gd_d (k69 (s' _ _)), l69 (s' _ _), ix_t (by omega) (by omega), gd_t, mB_o (a := 69) (by decide) (by decide), lv y hy, nI_1]
  cases c : S.1 y with
  | some d =>
    have e : bst (lI f) (dd S k + 1) S y = S := if_neg (fun q => by rw [c] at q; cases q.2)
    have hd : d < 32768 := by
      obtain ⟨j, hj, ej⟩ := v.2.2.1 _ _ c
      have := bV_d v hj
      rw [ej, c] at this
      cases this
      have := bV_dj v hj
      omega
    rw [e]
    exact ⟨F, Q, if_pos (nI_pos' (by omega)), b⟩
  | none =>
    rw [if_neg (show ¬ (0 : Int32) ≤ fe none by decide)]
    cases l : lI f y with
    | false =>
      have e : bst (lI f) (dd S k + 1) S y = S := if_neg (fun q => by rw [l] at q; cases q.1)
      rw [e]
      exact ⟨F, Q, if_pos rfl, b⟩
    | true =>
      have e : bst (lI f) (dd S k + 1) S y = (va_up S.1 y (some (dd S k + 1)), va_up S.2.1 S.2.2 y, S.2.2 + 1) := if_pos ⟨l, c⟩
      have al2 : S.2.2 + 1 ≤ 8 ^ nG f := by
        rw [e] at al1
        exact al1
      refine ⟨va_up F y (nI (dd S k + 1)), va_up Q S.2.2 (nI y), ?_, ?_⟩
      · rw [if_neg (show ¬ b2 true = 0 by decide), ob_s, ob_s, ob_s, gd_d (k71 (s' _ _)), l71 (s' _ _), ix_t (by omega) (by omega), gd_t, gd_d (k70 (s' _ _)), l70 (s' _ _), mB_71, b.2 k hk, ix_t (by omega) (by omega), gd_t, gd_d (k70 (s' _ _)), ix_t (by omega) (by omega), gd_t, ncl (by omega), mB_70, b.1 _ hx, bV_d v hk, fe_some, nI_1, mB_w70, r59_22 (s' _ _), ob_s, gd_d (k71 (s' _ _)), l71 (s' _ _), ix_t (by omega) (by omega), gd_t, ob_s, ncl (by omega), mB_w71, nI_1, e]
      · rw [e]
        exact rB_up b
/-- one guest's bells, and all -/
theorem m_farR (s : Sh h) (e60 : zI h 60 = f) (i : Inv f) (lv : ∀ k, k < 8 ^ nG f → zI h 69 k = b2 (lI f k)) {T k g : Nat} {S : BS} {F Q : Nat → Int32} (v : bV (lI f) (nbB f) (8 ^ nG f) T k S) (hk : k < S.2.2) (b : rB (8 ^ nG f) S F Q) (hg : g < nG f) : ∃ F' Q', iter (fun z : Int32 × Int32 × Hp => F_X12_fars_l71 59 z.1 (nI k) (nI g) z.2.1 z.2.2) FU (nI S.2.2, 0, mB h F Q) = some (nI ((nbR f (S.2.1 k) g (nR f)).foldl (bst (lI f) (dd S k + 1)) S).2.2, mB h F' Q') ∧ rB (8 ^ nG f) ((nbR f (S.2.1 k) g (nR f)).foldl (bst (lI f) (dd S k + 1)) S) F' Q' := by
  have r8 := iR8 i
  have s' : ∀ F Q, Sh (mB h F Q) := fun _ _ => s
  have e60' : ∀ F Q, zI (mB h F Q) 60 = f := fun _ _ => by rw [mB_o (by decide) (by decide), e60]
  have key := iter_cnt (body := fun z : Int32 × Int32 × Hp => F_X12_fars_l71 59 z.1 (nI k) (nI g) z.2.1 z.2.2) (s0 := (nI S.2.2, 0, mB h F Q)) (fun r z => ∃ F' Q', z = (nI ((nbR f (S.2.1 k) g r).foldl (bst (lI f) (dd S k + 1)) S).2.2, nI r, mB h F' Q') ∧ rB (8 ^ nG f) ((nbR f (S.2.1 k) g r).foldl (bst (lI f) (dd S k + 1)) S) F' Q') (fun x => ∃ F' Q', x = (nI ((nbR f (S.2.1 k) g (nR f)).foldl (bst (lI f) (dd S k + 1)) S).2.2, mB h F' Q') ∧ rB (8 ^ nG f) ((nbR f (S.2.1 k) g (nR f)).foldl (bst (lI f) (dd S k + 1)) S) F' Q') (nR f) (fun r z hr hI => ?_) (fun z hI => ?_) ⟨F, Q, rfl, b⟩ (FU_lt (by omega))
  · obtain ⟨x, hx, F', Q', hE, b'⟩ := key
    exact ⟨F', Q', by rw [hx, hE], b'⟩
  · obtain ⟨F1, Q1, rfl, b1⟩ := hI
    obtain ⟨v1, x1, -, -⟩ := bst_f (ok := lI f) (nb := nbB f) (N := 8 ^ nG f) (nbR f (S.2.1 k) g r) v hk rfl (fun y hy => by
      unfold nbR at hy
      rw [mem_cl] at hy
      obtain ⟨r', hr', hy⟩ := hy
      have : y = nbr (nG f) (S.2.1 k) g r' := by simpa using hy
      subst this
      exact ⟨mem_nbB.mpr ⟨g, hg, r', by omega, rfl⟩, nbr_lt (v.2.1 k hk).1 hg (by omega)⟩)
    have ek := bV_dd v x1 hk
    have eq := x1.2.1 k hk
    have es : nbR f (S.2.1 k) g (r + 1) = nbR f (S.2.1 k) g r ++ [nbr (nG f) (S.2.1 k) g r] := rfl
    rw [es, List.foldl_append]
    generalize (nbR f (S.2.1 k) g r).foldl (bst (lI f) (dd S k + 1)) S = S1 at *
    obtain ⟨F2, Q2, e2, b2⟩ := m_far1 s e60 i lv v1 (Nat.lt_of_lt_of_le hk x1.1) b1 hg hr
    rw [ek, eq] at e2 b2
    exact ⟨_, e2, F2, Q2, rfl, b2⟩
  · obtain ⟨F1, Q1, rfl, b1⟩ := hI
    refine ⟨_, ?_, F1, Q1, rfl, b1⟩
    show F_X12_fars_l71 59 _ (nI k) (nI g) (nI (nR f)) (mB h F1 Q1) = _
    have er : zI (mB h F1 Q1) 60 0 = nI (nR f) := by rw [e60', iR i]
    unfold F_X12_fars_l71
    rw [m_rooms (s' _ _), ob_s, gd_d (k59 (s' _ _)), er, if_pos (Int32.le_refl _)]
theorem m_farG (s : Sh h) (e60 : zI h 60 = f) (i : Inv f) (lv : ∀ k, k < 8 ^ nG f → zI h 69 k = b2 (lI f k)) {T k : Nat} {S : BS} {F Q : Nat → Int32} (v : bV (lI f) (nbB f) (8 ^ nG f) T k S) (hk : k < S.2.2) (b : rB (8 ^ nG f) S F Q) : ∃ F' Q', iter (fun z : Int32 × Int32 × Hp => F_X12_fars_l59 59 z.1 (nI k) z.2.1 z.2.2) FU (nI S.2.2, 0, mB h F Q) = some (nI (bK (lI f) (nbB f) k S).2.2, mB h F' Q') ∧ rB (8 ^ nG f) (bK (lI f) (nbB f) k S) F' Q' := by
  have r8 := iR8 i
  have g5 := iG5 i
  have s' : ∀ F Q, Sh (mB h F Q) := fun _ _ => s
  have e60' : ∀ F Q, zI (mB h F Q) 60 = f := fun _ _ => by rw [mB_o (by decide) (by decide), e60]
  have key := iter_cnt (body := fun z : Int32 × Int32 × Hp => F_X12_fars_l59 59 z.1 (nI k) z.2.1 z.2.2) (s0 := (nI S.2.2, 0, mB h F Q)) (fun g z => ∃ F' Q', z = (nI ((cl (fun g => nbR f (S.2.1 k) g (nR f)) g).foldl (bst (lI f) (dd S k + 1)) S).2.2, nI g, mB h F' Q') ∧ rB (8 ^ nG f) ((cl (fun g => nbR f (S.2.1 k) g (nR f)) g).foldl (bst (lI f) (dd S k + 1)) S) F' Q') (fun x => ∃ F' Q', x = (nI (bK (lI f) (nbB f) k S).2.2, mB h F' Q') ∧ rB (8 ^ nG f) (bK (lI f) (nbB f) k S) F' Q') (nG f) (fun g z hg hI => ?_) (fun z hI => ?_) ⟨F, Q, rfl, b⟩ (FU_lt (by omega))
  · obtain ⟨x, hx, F', Q', hE, b'⟩ := key
    exact ⟨F', Q', by rw [hx, hE], b'⟩
  · obtain ⟨F1, Q1, rfl, b1⟩ := hI
    obtain ⟨v1, x1, -, -⟩ := bst_f (ok := lI f) (nb := nbB f) (N := 8 ^ nG f) (cl (fun g => nbR f (S.2.1 k) g (nR f)) g) v hk rfl (fun y hy => by
      rw [mem_cl] at hy
      obtain ⟨g', hg', hy⟩ := hy
      unfold nbR at hy
      rw [mem_cl] at hy
      obtain ⟨r', hr', hy⟩ := hy
      have : y = nbr (nG f) (S.2.1 k) g' r' := by simpa using hy
      subst this
      exact ⟨mem_nbB.mpr ⟨g', by omega, r', hr', rfl⟩, nbr_lt (v.2.1 k hk).1 (by omega) (by omega)⟩)
    have ek := bV_dd v x1 hk
    have eq := x1.2.1 k hk
    rw [cl_s, List.foldl_append]
    show ∃ z', F_X12_fars_l59 59 (nI ((cl (fun g => nbR f (S.2.1 k) g (nR f)) g).foldl (bst (lI f) (dd S k + 1)) S).2.2) (nI k) (nI g) (mB h F1 Q1) = some (.inl z') ∧ _
    generalize (cl (fun g => nbR f (S.2.1 k) g (nR f)) g).foldl (bst (lI f) (dd S k + 1)) S = S1 at *
    obtain ⟨F2, Q2, e2, b2⟩ := m_farR s e60 i lv v1 (Nat.lt_of_lt_of_le hk x1.1) b1 hg
    rw [ek, eq] at e2 b2
    have er : zI (mB h F1 Q1) 60 1 = nI (nG f) := by rw [e60', iG i]
    unfold F_X12_fars_l59
    rw [m_guests (s' _ _), ob_s, gd_d (k59 (s' _ _)), er, if_neg (nI_ge hg (by omega)), e2, ob_s]
    refine ⟨_, rfl, F2, Q2, ?_, b2⟩
    show (_, nI g + 1, _) = (_, nI (g + 1), _)
    rw [nI_1]
  · obtain ⟨F1, Q1, rfl, b1⟩ := hI
    refine ⟨_, ?_, F1, Q1, rfl, b1⟩
    show F_X12_fars_l59 59 _ (nI k) (nI (nG f)) (mB h F1 Q1) = _
    have er : zI (mB h F1 Q1) 60 1 = nI (nG f) := by rw [e60', iG i]
    unfold F_X12_fars_l59
    rw [m_guests (s' _ _), ob_s, gd_d (k59 (s' _ _)), er, if_pos (Int32.le_refl _)]
    rfl
end FARS
