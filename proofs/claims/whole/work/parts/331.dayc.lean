/-! A DAY: the class -/
section DAYC
variable {h : Hp} {f : Nat → Int32}
theorem k53 (s : Sh h) : kd h 53 = 1 := by unfold Sh at s; simp only [s]
theorem r53_0 (s : Sh h) : zR h 53 0 = some 54 := by unfold Sh at s; simp only [s]
theorem r53_1 (s : Sh h) : zR h 53 1 = some 55 := by unfold Sh at s; simp only [s]
theorem k54 (s : Sh h) : kd h 54 = 13 := by unfold Sh at s; simp only [s]
theorem l54 (s : Sh h) : zl h 54 = 5 := by unfold Sh at s; simp only [s]
theorem k55 (s : Sh h) : kd h 55 = 7 := by unfold Sh at s; simp only [s]
theorem r55_1 (s : Sh h) : zR h 55 1 = some 56 := by unfold Sh at s; simp only [s]
theorem r55_2 (s : Sh h) : zR h 55 2 = some 57 := by unfold Sh at s; simp only [s]
theorem r55_3 (s : Sh h) : zR h 55 3 = some 58 := by unfold Sh at s; simp only [s]
theorem k56 (s : Sh h) : kd h 56 = 13 := by unfold Sh at s; simp only [s]
theorem k57 (s : Sh h) : kd h 57 = 13 := by unfold Sh at s; simp only [s]
theorem k58 (s : Sh h) : kd h 58 = 13 := by unfold Sh at s; simp only [s]
theorem l56 (s : Sh h) : zl h 56 = 6 := by unfold Sh at s; simp only [s]
theorem l57 (s : Sh h) : zl h 57 = 6 := by unfold Sh at s; simp only [s]
theorem l58 (s : Sh h) : zl h 58 = 6 := by unfold Sh at s; simp only [s]
theorem r15_1 (s : Sh h) : zR h 15 1 = some 16 := by unfold Sh at s; simp only [s]
theorem r15_2 (s : Sh h) : zR h 15 2 = some 17 := by unfold Sh at s; simp only [s]
theorem r15_3 (s : Sh h) : zR h 15 3 = some 18 := by unfold Sh at s; simp only [s]
theorem k16 (s : Sh h) : kd h 16 = 13 := by unfold Sh at s; simp only [s]
theorem k17 (s : Sh h) : kd h 17 = 13 := by unfold Sh at s; simp only [s]
theorem k18 (s : Sh h) : kd h 18 = 13 := by unfold Sh at s; simp only [s]
theorem l16 (s : Sh h) : zl h 16 = 20 := by unfold Sh at s; simp only [s]
theorem l17 (s : Sh h) : zl h 17 = 20 := by unfold Sh at s; simp only [s]
theorem l18 (s : Sh h) : zl h 18 = 20 := by unfold Sh at s; simp only [s]
/-- the class's day: seats, trunks' rooms, its two numbers -/
def dC (h : Hp) (S T D : Nat → Int32) : Hp := wI h (va_up (va_up (va_up (zI h) 54 S) 58 T) 53 D)
theorem dC_54 {S T D : Nat → Int32} : zI (dC h S T D) 54 = S := by
  unfold dC
  rw [wI_I, va_n _ _ _ _ (by decide), va_n _ _ _ _ (by decide), va_e]
theorem dC_58 {S T D : Nat → Int32} : zI (dC h S T D) 58 = T := by
  unfold dC
  rw [wI_I, va_n _ _ _ _ (by decide), va_e]
theorem dC_53 {S T D : Nat → Int32} : zI (dC h S T D) 53 = D := by
  unfold dC
  rw [wI_I, va_e]
theorem dC_o {S T D : Nat → Int32} {a : Nat} (h1 : a ≠ 54) (h2 : a ≠ 58) (h3 : a ≠ 53) : zI (dC h S T D) a = zI h a := by
  unfold dC
  rw [wI_I, va_n _ _ _ _ h3, va_n _ _ _ _ h2, va_n _ _ _ _ h1]
theorem dC_w54 {S T D : Nat → Int32} {k : Nat} {v : Int32} : setI (dC h S T D) 54 k v = dC h (va_up S k v) T D := by
  unfold dC
  rw [setI_w, wI_I, wI_w]
  congr 1
  funext a
  by_cases h1 : a = 54
  · subst h1
    rw [up2_v1, va_n _ _ _ _ (by decide), va_n _ _ _ _ (by decide), va_e, va_n _ _ _ _ (by decide), va_n _ _ _ _ (by decide), va_e]
  · rw [up2_a _ _ _ _ _ h1]
    by_cases h2 : a = 53
    · subst h2
      rw [va_e, va_e]
    · rw [va_n _ _ _ _ h2, va_n _ _ _ _ h2]
      by_cases h3 : a = 58
      · subst h3
        rw [va_e, va_e]
      · rw [va_n _ _ _ _ h3, va_n _ _ _ _ h3, va_n _ _ _ _ h1, va_n _ _ _ _ h1]
theorem dC_w58 {S T D : Nat → Int32} {k : Nat} {v : Int32} : setI (dC h S T D) 58 k v = dC h S (va_up T k v) D := by
  unfold dC
  rw [setI_w, wI_I, wI_w]
  congr 1
  funext a
  by_cases h1 : a = 58
  · subst h1
    rw [up2_v1, va_n _ _ _ _ (by decide), va_e, va_n _ _ _ _ (by decide), va_e]
  · rw [up2_a _ _ _ _ _ h1]
    by_cases h2 : a = 53
    · subst h2
      rw [va_e, va_e]
    · rw [va_n _ _ _ _ h2, va_n _ _ _ _ h2, va_n _ _ _ _ h1, va_n _ _ _ _ h1]
theorem dC_w53 {S T D : Nat → Int32} {k : Nat} {v : Int32} : setI (dC h S T D) 53 k v = dC h S T (va_up D k v) := by
  unfold dC
  rw [setI_w, wI_I, wI_w, up2_va]
theorem dC_s {S T D : Nat → Int32} (s : Sh h) : Sh (dC h S T D) := s
theorem dC_c {S T D : Nat → Int32} (i : Inv f) (c : HR (zI h) 3 f) : HR (zI (dC h S T D)) 3 f := by
  refine HR_congr (fun a ha => ?_) (fun g2 h2 => ⟨?_, ?_⟩) (fun _ _ => rfl) i c
  · exact dC_o (by omega) (by omega) (by omega)
  · exact dC_o (by omega) (by omega) (by omega)
  · exact dC_o (by omega) (by omega) (by omega)
/-- the copies of the trunks' weights -/
def dB (h : Hp) (f : Nat → Int32) : Prop := zI h 55 0 = f 2 ∧ ∀ t, t < nT f → zI h 56 t = f (53 + 3 * t) ∧ zI h 57 t = f (54 + 3 * t)
theorem dC_tv {S T D : Nat → Int32} (s : Sh h) (i : Inv f) (b : dB h f) (o : okS f (nT f) T) : TV (dC h S T D) 55 f (cf T) := by
  have r8 := iR8 i
  refine ⟨⟨k55 s, r55_1 s, r55_2 s, r55_3 s⟩, ⟨k56 s, k57 s, k58 s, l56 s, l57 s, l58 s⟩, (congrFun (dC_o (by decide) (by decide) (by decide)) 0).trans b.1, fun t ht => ?_⟩
  obtain ⟨o1, o2⟩ := okS_cf i o ht
  refine ⟨(congrFun (dC_o (by decide) (by decide) (by decide)) t).trans (b.2 t ht).1, (congrFun (dC_o (by decide) (by decide) (by decide)) t).trans (b.2 t ht).2, ?_, by omega⟩
  show zI (dC h S T D) 58 t = _
  rw [dC_58]
  exact o1
theorem x_slideAll (s : Sh h) (i : Inv f) (c : HR (zI h) 3 f) (bb : dB h f) {P A b : Nat} (hb : b < 2) (p : ∀ S T D, PL (dC h S T D) P f b) (a : ∀ S T D, PL (dC h S T D) A f (1 - b)) {x : Int32} {d : Int} (hx : dI3 x d) {S T D : Nat → Int32} (o : okS f (nT f) T) : F_X8_slideAll 55 P A x (nI (nR f)) (dC h S T D) = some (nI (slS f b d T).2, dC h S (slS f b d T).1 D) := by
  have t6 := iT6 i
  have r8 := iR8 i
  unfold F_X8_slideAll F_X8_slideAll_b0
  refine (ob_p (iter_at (fun j => (nI (foldN (slU f b d) j (T, 0)).2, nI j, dC h S (foldN (slU f b d) j (T, 0)).1 D)) (nT f) (nI (slS f b d T).2, dC h S (slS f b d T).1 D) rfl (fun j hj => ?_) ?_ (FU_lt (by omega))) _).trans rfl
  · show F_X8_slideAll_l6 55 P A x (nI (nR f)) (nI (foldN (slU f b d) j (T, 0)).2) (nI j) (dC h S (foldN (slU f b d) j (T, 0)).1 D) = some (Sum.inl (nI (slU f b d j (foldN (slU f b d) j (T, 0))).2, nI (j + 1), dC h S (slU f b d j (foldN (slU f b d) j (T, 0))).1 D))
    have inv := sl_ok i (b := b) (d := d) o j (by omega)
    generalize foldN (slU f b d) j (T, 0) = z at inv ⊢
    obtain ⟨o1, -, -⟩ := inv
    obtain ⟨e1, e2⟩ := okS_cf i o1 hj
    have s' : Sh (dC h S z.1 D) := s
    have z0 : zI (dC h S z.1 D) 55 0 = nI (nT f) := ((congrFun (dC_o (by decide) (by decide) (by decide)) 0).trans bb.1).trans (iT i)
    unfold F_X8_slideAll_l6 F_X8_slideAll_b50
    rw [gd_d (k55 s'), z0, if_neg (nI_ge hj (by omega)), r55_3 s', ob_s, gd_d (k58 s'), l58 s', ix_t (by omega) (by omega), gd_t, ncl (by omega), dC_58, e1, x_next i hb (p _ _ _) (a _ _ _) hx e2, ob_s, ob_s, gd_d (k58 s'), l58 s', ix_t (by omega) (by omega), gd_t, dC_w58, nI_1, nI_1]
    unfold slU
    by_cases q : nxS f b d (cf z.1 j) = -1
    · rw [if_pos q, if_pos q]
    · rw [if_neg q, if_neg q]
  · show F_X8_slideAll_l6 55 P A x (nI (nR f)) (nI (slS f b d T).2) (nI (nT f)) (dC h S (slS f b d T).1 D) = _
    have s' : Sh (dC h S (slS f b d T).1 D) := s
    have z0 : zI (dC h S (slS f b d T).1 D) 55 0 = nI (nT f) := ((congrFun (dC_o (by decide) (by decide) (by decide)) 0).trans bb.1).trans (iT i)
    unfold F_X8_slideAll_l6
    rw [gd_d (k55 s'), z0, if_pos (Int32.le_refl _)]
theorem x_walkAll (s : Sh h) (i : Inv f) (c : HR (zI h) 3 f) (m : Nat) (hm : m < 1000) : ∀ (n : Nat) {S T D : Nat → Int32} {L : Nat}, L ≤ nB f → nB f < L + n → ∀ fuel, n ≤ fuel → iter (fun z : Int32 × Hp => F_X1_walkAll_l3 53 15 (nI m) z.1 z.2) fuel (nI L, dC h S T D) = some (nI (wkS f m n (S, L)).2, dC h (wkS f m n (S, L)).1 T D)
  | 0, S, T, D, L, h1, h2, fuel, h3 => absurd h2 (by omega)
  | n + 1, S, T, D, L, h1, h2, fuel, h3 => by
    have b20 := iB20 i
    have g5 := iG5 i
    obtain ⟨fu, rfl⟩ : ∃ fu, fuel = fu + 1 := ⟨fuel - 1, by omega⟩
    have s' : Sh (dC h S T D) := s
    have z0 : zI (dC h S T D) 15 0 = nI (nB f) := ((congrFun (dC_o (by decide) (by decide) (by decide)) 0).trans c.1.2.2.2.2.1).trans (iB i)
    by_cases q : L < nB f
    · obtain ⟨q1, q2, q3⟩ := HR_bk c L q
      have y1 : zI (dC h S T D) 16 L = f (71 + 3 * L) := (congrFun (dC_o (by decide) (by decide) (by decide)) L).trans q1
      have y2 : zI (dC h S T D) 17 L = f (72 + 3 * L) := (congrFun (dC_o (by decide) (by decide) (by decide)) L).trans q2
      have y3 : zI (dC h S T D) 18 L = f (73 + 3 * L) := (congrFun (dC_o (by decide) (by decide) (by decide)) L).trans q3
      obtain ⟨-, ⟨g, hg, eg⟩, -⟩ := ibk i L q
      have st : F_X1_walkAll_l3 53 15 (nI m) (nI L) (dC h S T D) = if f (71 + 3 * L) = nI m then some (.inl (nI (L + 1), dC h (va_up S (f (72 + 3 * L)).toNatClampNeg (f (73 + 3 * L))) T D)) else some (.inr (nI L, dC h S T D)) := by
        unfold F_X1_walkAll_l3
        rw [gd_d (k15 s'), z0, if_neg (nI_ge q (by omega)), nl_20, if_neg (nI_ge (by omega) (by omega)), r15_1 s', ob_s, gd_d (k16 s'), l16 s', ix_t (by omega) (by omega), gd_t, ncl (by omega), y1, gd_d (k53 s'), r53_0 s', ob_s, r15_2 s', ob_s, gd_d (k17 s'), l17 s', ix_t (by omega) (by omega), gd_t, r15_3 s', ob_s, gd_d (k18 s'), l18 s', ix_t (by omega) (by omega), gd_t, gd_d (k54 s'), y2, y3, eg, l54 s', ix_t (by omega) (by omega), gd_t, dC_w54, nI_1]
      by_cases w : f (71 + 3 * L) = nI m
      · rw [if_pos w] at st
        rw [iter_st st]
        have ew : wkS f m (n + 1) (S, L) = wkS f m n (va_up S (f (72 + 3 * L)).toNatClampNeg (f (73 + 3 * L)), L + 1) := by
          conv => lhs; unfold wkS
          rw [if_pos ⟨q, w⟩]
        rw [ew]
        exact x_walkAll s i c m hm n (by omega) (by omega) fu (by omega)
      · rw [if_neg w] at st
        have ew : wkS f m (n + 1) (S, L) = (S, L) := by
          unfold wkS
          rw [if_neg (fun z => w z.2)]
        rw [iter_en st, ew]
    · have st : F_X1_walkAll_l3 53 15 (nI m) (nI L) (dC h S T D) = some (.inr (nI L, dC h S T D)) := by
        unfold F_X1_walkAll_l3
        rw [gd_d (k15 s'), z0, if_pos (nI_le (by omega) (by omega))]
      have ew : wkS f m (n + 1) (S, L) = (S, L) := by
        unfold wkS
        rw [if_neg (fun z => q z.1)]
      rw [iter_en st, ew]
end DAYC
