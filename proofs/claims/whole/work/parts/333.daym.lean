/-! A DAY: the reference -/
section DAYM
variable {h : Hp} {f : Nat → Int32}
/-- the world with the trunks in other rooms -/
def dyF (f T : Nat → Int32) : Nat → Int32 := fun k => if 55 ≤ k ∧ k < 73 ∧ k % 3 = 1 then T ((k - 55) / 3) else f k
theorem dyF_t {T : Nat → Int32} {t : Nat} (ht : t < 6) : dyF f T (55 + 3 * t) = T t := by
  unfold dyF
  rw [if_pos (by omega), show (55 + 3 * t - 55) / 3 = t by omega]
theorem dyF_o {T : Nat → Int32} {k : Nat} (hk : ∀ t, t < 6 → k ≠ 55 + 3 * t) : dyF f T k = f k := by
  unfold dyF
  rw [if_neg (fun q => hk ((k - 55) / 3) (by omega) (by omega))]
theorem dyF_u {T : Nat → Int32} {t : Nat} {v : Int32} (ht : t < 6) : va_up (dyF f T) (55 + 3 * t) v = dyF f (va_up T t v) := by
  funext k
  by_cases e : k = 55 + 3 * t
  · subst e
    rw [va_e, dyF_t ht, va_e]
  · rw [va_n _ _ _ _ e]
    unfold dyF
    by_cases q : 55 ≤ k ∧ k < 73 ∧ k % 3 = 1
    · rw [if_pos q, if_pos q, va_n _ _ _ _ (by omega)]
    · rw [if_neg q, if_neg q]
theorem dyF_n {T : Nat → Int32} : nR (dyF f T) = nR f ∧ nG (dyF f T) = nG f ∧ nT (dyF f T) = nT f ∧ nB (dyF f T) = nB f ∧ sR (dyF f T) = sR f := by
  unfold nR nG nT nB sR
  rw [dyF_o (fun t _ => by omega), dyF_o (fun t _ => by omega), dyF_o (fun t _ => by omega), dyF_o (fun t _ => by omega), dyF_o (fun t _ => by omega)]
  exact ⟨rfl, rfl, rfl, rfl, rfl⟩
theorem dyF_i {T : Nat → Int32} (i : Inv f) (o : okS f (nT f) T) : Inv (dyF f T) := by
  have r8 := iR8 i
  have g5 := iG5 i
  have t6 := iT6 i
  have b20 := iB20 i
  refine Inv_mk i (fun k hk => dyF_o (fun t _ => by omega)) (fun r hr => ?_) (fun g hg => ?_) (fun t ht => ?_) (fun b hb => ?_)
  · rw [dyF_o (fun t _ => by omega), dyF_o (fun t _ => by omega), dyF_o (fun t _ => by omega), dyF_o (fun t _ => by omega)]
    exact irm i r hr
  · rw [dyF_o (fun t _ => by omega), dyF_o (fun t _ => by omega)]
    exact ig2 i g hg
  · rw [dyF_o (fun t _ => by omega), dyF_o (fun t _ => by omega), dyF_t (by omega)]
    obtain ⟨a, b, c, -⟩ := it2 i t ht
    exact ⟨a, b, c, o t ht⟩
  · by_cases hh : 73 ≤ 71 + 3 * b
    · rw [dyF_o (fun t _ => by omega), dyF_o (fun t _ => by omega), dyF_o (fun t _ => by omega)]
      exact ibk i b hb
    · rw [dyF_o (fun t _ => by omega), dyF_o (fun t _ => by omega), dyF_o (fun t _ => by omega)]
      exact ibk i b hb
theorem dyF_net {T : Nat → Int32} (i : Inv f) (b : Nat) (hb : b < 2) {s : Nat → Nat} (hs : ∀ g, g < nG f → s g < 8) : netS (dyF f T) b s = netS f b s := by
  obtain ⟨n1, n2, -, -, n5⟩ := @dyF_n f T
  have r8 := iR8 i
  have g5 := iG5 i
  have s8 := (iS i).2.1
  unfold netS thg gst
  rw [n1, n2, n5, dyF_o (k := 7) (fun t _ => by omega), dyF_o (k := 11 + 4 * sR f + b) (fun t _ => by omega)]
  congr 1
  · exact accN_congr (fun r hr => by rw [dyF_o (fun t _ => by omega), dyF_o (fun t _ => by omega)])
  · exact accN_congr (fun g hg => by
      have := hs g hg
      rw [dyF_o (fun t _ => by omega), dyF_o (fun t _ => by omega)])
theorem dyF_tin {T : Nat → Int32} {t : Nat} (ht : t < 6) : tin (dyF f T) t = cf T t := by
  unfold tin cf
  rw [dyF_t ht]
theorem dyF_lev {T : Nat → Int32} (i : Inv f) (o : okS f (nT f) T) (x y : Int32) : levS (dyF f T) x y (tin (dyF f T)) = levS f x y (cf T) := by
  obtain ⟨-, -, n3, -, -⟩ := @dyF_n f T
  have r8 := iR8 i
  have t6 := iT6 i
  have e1 : ∀ b, b < 2 → lowS (dyF f T) b (tin (dyF f T)) = lowS f b (cf T) := fun b hb => by
    unfold lowS
    rw [n3]
    exact accN_congr (fun k hk => by
      have := (okS_cf i o hk).2
      rw [dyF_tin (by omega), dyF_o (k := 11 + 4 * cf T k + b) (fun t _ => by omega), dyF_o (k := 53 + 3 * k) (fun t _ => by omega), dyF_o (k := 54 + 3 * k) (fun t _ => by omega)])
  have e2 : ∀ b, b < 2 → higS (dyF f T) b (tin (dyF f T)) = higS f b (cf T) := fun b hb => by
    unfold higS
    rw [n3]
    exact accN_congr (fun k hk => by
      have := (okS_cf i o hk).2
      rw [dyF_tin (by omega), dyF_o (k := 11 + 4 * cf T k + b) (fun t _ => by omega), dyF_o (k := 53 + 3 * k) (fun t _ => by omega), dyF_o (k := 54 + 3 * k) (fun t _ => by omega)])
  unfold levS lev1
  rw [e1 0 (by omega), e1 1 (by omega), e2 0 (by omega), e2 1 (by omega), dyF_o (k := 8) (fun t _ => by omega)]
theorem dyF_nx {T : Nat → Int32} (i : Inv f) (b : Nat) (hb : b < 2) (d : Int) {q : Nat} (hq : q < 8) : nxS (dyF f T) b d q = nxS f b d q := by
  obtain ⟨n1, -, -, -, -⟩ := @dyF_n f T
  have r8 := iR8 i
  unfold nxS
  rw [n1]
  have key := foldN_rel (u := nxU (dyF f T) b d q) (v := nxU f b d q) (fun _ a c => a = c ∧ nxI f b d q c) (n := nR f) (a := -1) (b := -1) ⟨rfl, Or.inl rfl⟩ (fun j a c hj hr => by
    obtain ⟨rfl, hr⟩ := hr
    have inv2 : nxI f b d q (nxU f b d q j a) := by
      unfold nxU
      by_cases w : f (11 + 4 * j + (1 - b)) = f (11 + 4 * q + (1 - b)) ∧ 0 < d * (pI f b j - pI f b q) ∧ (a = -1 ∨ 0 < d * (pI f b a.toNatClampNeg - pI f b j))
      · rw [if_pos w]
        exact Or.inr ⟨j, hj, rfl, w.2.1⟩
      · rw [if_neg w]
        exact hr
    refine ⟨?_, inv2⟩
    unfold nxU pI
    have ha : a.toNatClampNeg < 8 := by
      rcases hr with rfl | ⟨r, h1, rfl, -⟩
      · decide
      · rw [nI_clamp (by omega)]; omega
    rw [dyF_o (k := 11 + 4 * j + (1 - b)) (fun t _ => by omega), dyF_o (k := 11 + 4 * q + (1 - b)) (fun t _ => by omega), dyF_o (k := 11 + 4 * j + b) (fun t _ => by omega), dyF_o (k := 11 + 4 * q + b) (fun t _ => by omega), dyF_o (k := 11 + 4 * a.toNatClampNeg + b) (fun t _ => by omega)])
  exact (key (nR f) (Nat.le_refl _)).1
/-- the reference's day: seats, trunks, its numbers -/
def dM (h : Hp) (f S T D : Nat → Int32) : Hp := wI h (va_up (va_up (va_up (zI h) 66 S) 60 (dyF f T)) 59 D)
theorem dM_66 {S T D : Nat → Int32} : zI (dM h f S T D) 66 = S := by
  unfold dM
  rw [wI_I, va_n _ _ _ _ (by decide), va_n _ _ _ _ (by decide), va_e]
theorem dM_60 {S T D : Nat → Int32} : zI (dM h f S T D) 60 = dyF f T := by
  unfold dM
  rw [wI_I, va_n _ _ _ _ (by decide), va_e]
theorem dM_59 {S T D : Nat → Int32} : zI (dM h f S T D) 59 = D := by
  unfold dM
  rw [wI_I, va_e]
theorem dM_o {S T D : Nat → Int32} {a : Nat} (h1 : a ≠ 66) (h2 : a ≠ 60) (h3 : a ≠ 59) : zI (dM h f S T D) a = zI h a := by
  unfold dM
  rw [wI_I, va_n _ _ _ _ h3, va_n _ _ _ _ h2, va_n _ _ _ _ h1]
theorem dM_w66 {S T D : Nat → Int32} {k : Nat} {v : Int32} : setI (dM h f S T D) 66 k v = dM h f (va_up S k v) T D := by
  unfold dM
  rw [setI_w, wI_I, wI_w]
  congr 1
  funext a
  by_cases h1 : a = 66
  · subst h1
    rw [up2_v1, va_n _ _ _ _ (by decide), va_n _ _ _ _ (by decide), va_e, va_n _ _ _ _ (by decide), va_n _ _ _ _ (by decide), va_e]
  · rw [up2_a _ _ _ _ _ h1]
    by_cases h2 : a = 59
    · subst h2
      rw [va_e, va_e]
    · rw [va_n _ _ _ _ h2, va_n _ _ _ _ h2]
      by_cases h3 : a = 60
      · subst h3
        rw [va_e, va_e]
      · rw [va_n _ _ _ _ h3, va_n _ _ _ _ h3, va_n _ _ _ _ h1, va_n _ _ _ _ h1]
theorem dM_w60 {S T D : Nat → Int32} {t : Nat} {v : Int32} (ht : t < 6) : setI (dM h f S T D) 60 (55 + 3 * t) v = dM h f S (va_up T t v) D := by
  unfold dM
  rw [setI_w, wI_I, wI_w]
  congr 1
  funext a
  by_cases h1 : a = 60
  · subst h1
    rw [up2_v1, va_n _ _ _ _ (by decide), va_e, va_n _ _ _ _ (by decide), va_e, dyF_u ht]
  · rw [up2_a _ _ _ _ _ h1]
    by_cases h2 : a = 59
    · subst h2
      rw [va_e, va_e]
    · rw [va_n _ _ _ _ h2, va_n _ _ _ _ h2, va_n _ _ _ _ h1, va_n _ _ _ _ h1]
theorem dM_w59 {S T D : Nat → Int32} {k : Nat} {v : Int32} : setI (dM h f S T D) 59 k v = dM h f S T (va_up D k v) := by
  unfold dM
  rw [setI_w, wI_I, wI_w, up2_va]
end DAYM
