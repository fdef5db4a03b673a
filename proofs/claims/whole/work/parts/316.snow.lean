/-! CALLS: night, melt -/
section SNOW
variable {h : Hp}
/-- snow of the first n rooms rewritten, and the seed -/
def snF (f : Nat → Int32) (ns : Nat → Int32) (sd : Int32) (n : Nat) : Nat → Int32 := fun k => if k = 10 then sd else if 14 ≤ k ∧ k < 14 + 4 * n ∧ k % 4 = 2 then ns ((k - 14) / 4) else f k
theorem snF_10 {f ns : Nat → Int32} {sd : Int32} {n : Nat} : snF f ns sd n 10 = sd := by simp [snF]
theorem snF_r {f ns : Nat → Int32} {sd : Int32} {n r : Nat} (hr : r < n) : snF f ns sd n (14 + 4 * r) = ns r := by
  unfold snF
  rw [if_neg (by omega), if_pos (by omega), show (14 + 4 * r - 14) / 4 = r by omega]
theorem snF_o {f ns : Nat → Int32} {sd : Int32} {n k : Nat} (h1 : k ≠ 10) (h2 : ∀ r, r < n → k ≠ 14 + 4 * r) : snF f ns sd n k = f k := by
  unfold snF
  rw [if_neg h1, if_neg (fun q => h2 ((k - 14) / 4) (by omega) (by omega))]
theorem snF_0 (f ns : Nat → Int32) : snF f ns (f 10) 0 = f := by
  funext k
  by_cases e : k = 10
  · subst e
    rw [snF_10]
  · rw [snF_o e (fun r hr => absurd hr (by omega))]
theorem snF_s (f ns : Nat → Int32) (sd sd2 : Int32) (n : Nat) : va_up (va_up (snF f ns sd n) 10 sd2) (14 + 4 * n) (ns n) = snF f ns sd2 (n + 1) := by
  funext k
  by_cases e : k = 14 + 4 * n
  · subst e
    rw [va_e, snF_r (by omega)]
  · rw [va_n _ _ _ _ e]
    by_cases e2 : k = 10
    · subst e2
      rw [va_e, snF_10]
    · rw [va_n _ _ _ _ e2]
      unfold snF
      rw [if_neg e2, if_neg e2]
      by_cases q : 14 ≤ k ∧ k < 14 + 4 * n ∧ k % 4 = 2
      · rw [if_pos q, if_pos (by omega)]
      · rw [if_neg q, if_neg (by omega)]
theorem Inv_sn {f : Nat → Int32} (i : Inv f) {ns : Nat → Int32} (hn : ∀ r, r < nR f → bw (ns r) 0 999) (sd : Int32) : Inv (snF f ns sd (nR f)) := by
  have r8 := iR8 i
  have g5 := iG5 i
  have t6 := iT6 i
  have b20 := iB20 i
  refine Inv_mk i (fun k hk => snF_o (by omega) (fun r hr => by omega)) (fun r hr => ?_) (fun g hg => ?_) (fun t ht => ?_) (fun b hb => ?_)
  · rw [snF_o (by omega) (fun r hr => by omega), snF_o (by omega) (fun r hr => by omega), snF_o (by omega) (fun r hr => by omega), snF_r hr]
    exact ⟨(irm i r hr).1, (irm i r hr).2.1, (irm i r hr).2.2.1, hn r hr⟩
  · rw [snF_o (by omega) (fun r hr => by omega), snF_o (by omega) (fun r hr => by omega)]
    exact ig2 i g hg
  · rw [snF_o (by omega) (fun r hr => by omega), snF_o (by omega) (fun r hr => by omega), snF_o (by omega) (fun r hr => by omega)]
    exact it2 i t ht
  · rw [snF_o (by omega) (fun r hr => by omega), snF_o (by omega) (fun r hr => by omega), snF_o (by omega) (fun r hr => by omega)]
    exact ibk i b hb
/-- the class's house with this -/
def snC (I : Nat → Nat → Int32) (ns : Nat → Int32) (sd : Int32) (n : Nat) : Nat → Nat → Int32 := up2 (va_up I 7 (fillF ns (I 7) n)) 3 15 sd
def snJ (I : Nat → Nat → Int32) (ns : Nat → Int32) (sd : Int32) (n : Nat) : Nat → Nat → Int32 := va_up (up2 (snC I ns sd n) 59 0 0) 60 (snF (I 60) ns sd n)
theorem snC_o {I : Nat → Nat → Int32} {ns : Nat → Int32} {sd : Int32} {n a : Nat} (h1 : a ≠ 3) (h2 : a ≠ 7) : snC I ns sd n a = I a := by
  unfold snC
  rw [up2_a _ _ _ _ _ h1, va_n _ _ _ _ h2]
theorem snC_7 {I : Nat → Nat → Int32} {ns : Nat → Int32} {sd : Int32} {n : Nat} : snC I ns sd n 7 = fillF ns (I 7) n := by
  unfold snC
  rw [up2_a _ _ _ _ _ (by decide), va_e]
theorem snC_3 {I : Nat → Nat → Int32} {ns : Nat → Int32} {sd : Int32} {n k : Nat} : snC I ns sd n 3 k = if k = 15 then sd else I 3 k := by
  unfold snC
  by_cases hk : k = 15
  · subst hk
    rw [up2_e, if_pos rfl]
  · rw [up2_k _ _ _ _ _ hk, if_neg hk, va_n _ _ _ _ (by decide)]
theorem snC_0 (I : Nat → Nat → Int32) (ns : Nat → Int32) : snC I ns (I 3 15) 0 = I := by
  funext a k
  by_cases h7 : a = 7
  · subst h7
    rw [snC_7, fill_0]
  · by_cases h3 : a = 3
    · subst h3
      rw [snC_3]
      by_cases hk : k = 15
      · rw [if_pos hk, hk]
      · rw [if_neg hk]
    · rw [snC_o h3 h7]
theorem snC_s (I : Nat → Nat → Int32) (ns : Nat → Int32) (sd sd2 : Int32) (n : Nat) : up2 (up2 (snC I ns sd n) 3 15 sd2) 7 n (ns n) = snC I ns sd2 (n + 1) := by
  funext a k
  by_cases h7 : a = 7
  · subst h7
    rw [snC_7]
    by_cases hk : k = n
    · subst hk
      rw [up2_e, fill_in (by omega)]
    · rw [up2_k _ _ _ _ _ hk, up2_a _ _ _ _ _ (by decide), snC_7]
      unfold fillF
      by_cases h1 : k < n
      · rw [if_pos h1, if_pos (by omega)]
      · rw [if_neg h1, if_neg (by omega)]
  · rw [up2_a _ _ _ _ _ h7]
    by_cases h3 : a = 3
    · subst h3
      rw [snC_3]
      by_cases hk : k = 15
      · subst hk
        rw [up2_e, if_pos rfl]
      · rw [up2_k _ _ _ _ _ hk, if_neg hk, snC_3, if_neg hk]
    · rw [up2_a _ _ _ _ _ h3, snC_o h3 h7, snC_o h3 h7]
theorem sn_gs (g : GS h) {ns : Nat → Int32} (hn : ∀ r, r < nR (zI h 60) → bw (ns r) 0 999) (sd : Int32) : GS (wI h (snJ (zI h) ns sd (nR (zI h 60)))) := by
  obtain ⟨s, i, c, -⟩ := id g
  have r8 := iR8 i
  have e60 : snJ (zI h) ns sd (nR (zI h 60)) 60 = snF (zI h 60) ns sd (nR (zI h 60)) := va_e _ _ _
  have ot : ∀ a, a ≠ 3 → a ≠ 7 → a ≠ 59 → a ≠ 60 → snJ (zI h) ns sd (nR (zI h 60)) a = zI h a := fun a h1 h2 h3 h4 => by
    unfold snJ
    rw [va_n _ _ _ _ h4, up2_a _ _ _ _ _ h3, snC_o h1 h2]
  refine GS_many g (by rw [e60]; exact Inv_sn i hn sd) ?_ ?_ ?_ (fun k h1 h2 => ?_) (fun k h1 h2 => ?_) ?_
  · intro a k w m
    have q := HR_mp c a k w m
    have hb := mp_bd m
    rw [e60]
    have m5 : Mp 0 15 10 := by unfold Mp; decide
    by_cases w5 : w = 10
    · obtain ⟨rfl, rfl⟩ := (mp_fun m5 m).mpr w5
      subst w5
      rw [snF_10]
      show snJ (zI h) ns sd (nR (zI h 60)) 3 15 = sd
      unfold snJ
      rw [va_n _ _ _ _ (by decide), up2_a _ _ _ _ _ (by decide), snC_3, if_pos rfl]
    · by_cases a4 : a = 4
      · subst a4
        have hk : k < 8 ∧ w = 14 + 4 * k := by
          rcases m with ⟨m1, m2⟩ | ⟨m1, m2, m3⟩ | ⟨m1, m2, m3⟩ | ⟨m1, m2, m3, m4⟩ | ⟨m1, m2, m3, m4⟩ | ⟨m1, m2, m3, m4⟩ | ⟨m1, m2, m3, m4⟩ <;> omega
        obtain ⟨hk, rfl⟩ := hk
        show snJ (zI h) ns sd (nR (zI h 60)) 7 k = _
        unfold snJ
        rw [va_n _ _ _ _ (by decide), up2_a _ _ _ _ _ (by decide), snC_7]
        by_cases hr : k < nR (zI h 60)
        · rw [snF_r hr, fill_in hr]
        · rw [snF_o w5 (fun r h2 => by omega), fill_out (by omega)]
          exact q
      · have hw : ∀ r, r < nR (zI h 60) → w ≠ 14 + 4 * r := fun r hr e => a4 ((mp_fun (mp_R (a := 4) (k := r) (by omega) (by omega) (by omega) rfl) m).mpr (by omega)).1
        rw [snF_o w5 hw, ← q]
        by_cases a0 : a = 0
        · subst a0
          show snJ (zI h) ns sd (nR (zI h 60)) 3 k = zI h 3 k
          unfold snJ
          rw [va_n _ _ _ _ (by decide), up2_a _ _ _ _ _ (by decide), snC_3, if_neg (fun e => w5 ((mp_fun m5 m).mp ⟨rfl, e⟩))]
        · rw [ot _ (by omega) (by omega) (by omega) (by omega)]
  · rw [e60, snF_o (by omega) (fun r hr => by omega)]
  · rw [e60, snF_o (by omega) (fun r hr => by omega)]
  · rw [e60, snF_o (by omega) (fun r hr => by omega)]
  · rw [e60, snF_o (by omega) (fun r hr => by omega)]
  · intro a k n1 n2 n3 n4
    by_cases a59 : a = 59
    · subst a59
      unfold snJ
      rw [va_n _ _ _ _ (by decide), up2_k _ _ _ _ _ (by unfold mNo at n1; omega), snC_o (by decide) (by decide)]
    · rw [ot _ (by omega) (by omega) a59 n4]
theorem snF_n {f ns : Nat → Int32} {sd : Int32} {n : Nat} : nR (snF f ns sd n) = nR f := by
  unfold nR
  rw [snF_o (by omega) (fun r hr => by omega)]
/-- the reference's snows -/
theorem m_snows (s : Sh h) {r : Nat} (hr : r < 8) (v : Int32) : F_X12_snows 59 (nI r) v h = some (jmax 0 (jmin 999 v) - zI h 60 (14 + 4 * r), setI h 60 (14 + 4 * r) (jmax 0 (jmin 999 v))) := by
  have s1 : Sh (setI h 60 (14 + 4 * r) (jmax 0 (jmin 999 v))) := Sh_w s _
  have e : ((11 : Int32) + (4 : Int32) * nI r + (3 : Int32)) = nI (14 + 4 * r) := by
    rw [nl_11, nl_4, nl_3, nmul, nadd, nadd, show 11 + 4 * r + 3 = 14 + 4 * r by omega]
  simp (disch := omega) only [F_X12_snows, F_X12_snows_b0, m_ofS s, e, ix_t, ncl, m_ofS s1, su_e, k59 s, r59_1 s, k60 s, l60 s, k0 s, r0_1 s, k3 s, r3_1 s, r3_2 s, r3_3 s, r3_4 s, r3_6 s, r3_7 s, r3_8 s, r3_9 s, r3_16 s, k4 s, k5 s, k6 s, k7 s, k8 s, k9 s, l4 s, l5 s, l6 s, l7 s, l8 s, l9 s, k11 s, r11_1 s, r11_2 s, r11_3 s, k12 s, k13 s, k14 s, l12 s, l13 s, l14 s, k15 s, r0_0 s, k1 s, gd_t, ob_s, ob2_s, ob4_s, sm_l, sm_r, ac_s, decide_true, decide_false, eq_self, ne_eq, not_false_eq_true, not_true_eq_false, if_true, if_false, ite_true, ite_false, reduceIte, or_true, true_or, or_false, false_or, and_true, true_and, Bool.false_eq_true, reduceCtorEq]
/-- the sum of what changed -/
def dlS (f ns : Nat → Int32) : Nat → Int32
  | 0 => 0
  | n + 1 => dlS f ns n + (ns n - f (14 + 4 * n))
theorem sub4 (a b x y : Int32) : (a + x) - (b + y) = (a - b) + (x - y) := by
  have e : -(b + y) = -b + -y := by rw [Int32.neg_add, Int32.sub_eq_add_neg]
  rw [Int32.sub_eq_add_neg (a + x), e, Int32.sub_eq_add_neg a, Int32.sub_eq_add_neg x, Int32.add_assoc, Int32.add_assoc a (-b), ← Int32.add_assoc x, Int32.add_comm x, Int32.add_assoc (-b)]
theorem dl_sum (f ns : Nat → Int32) : ∀ n, accN 0 ns n - accN 0 (fun r => f (14 + 4 * r)) n = dlS f ns n
  | 0 => by show (0 : Int32) - 0 = 0; decide
  | n + 1 => by
    show (accN 0 ns n + ns n) - (accN 0 (fun r => f (14 + 4 * r)) n + f (14 + 4 * n)) = dlS f ns n + (ns n - f (14 + 4 * n))
    rw [sub4, dl_sum f ns n]
theorem x_snow2 (s : Sh h) (i : Inv (zI h 60)) (c : HR (zI h) 3 (zI h 60)) {ns : Nat → Int32} {sd : Int32} : F_X2_snowOfAll 3 (wI h (snC (zI h) ns sd (nR (zI h 60)))) = some (accN 0 ns (nR (zI h 60))) := by
  unfold F_X2_snowOfAll F_X2_snowOfAll_b0
  have hn := iR8 i
  have s' : Sh (wI h (snC (zI h) ns sd (nR (zI h 60)))) := s
  have z0 : zI (wI h (snC (zI h) ns sd (nR (zI h 60)))) 3 0 = nI (nR (zI h 60)) := by
    show snC (zI h) ns sd (nR (zI h 60)) 3 0 = _
    rw [snC_3, if_neg (by decide), c.1.1, iR i]
  refine ob_p (iter_run (fun j => (accN 0 ns j, nI j)) (nR (zI h 60)) _ (fun j hj => ?_) ?_ (FU_lt (by omega))) _
  · show F_X2_snowOfAll_l4 3 (accN 0 ns j) (nI j) (wI h (snC (zI h) ns sd (nR (zI h 60)))) = _
    have c4 : zI (wI h (snC (zI h) ns sd (nR (zI h 60)))) 7 j = ns j := by
      show snC (zI h) ns sd (nR (zI h 60)) 7 j = _
      rw [snC_7, fill_in hj]
    simp (disch := omega) only [F_X2_snowOfAll_l4, z0, nle_f hj, ix_t, ncl, c4, nI_1, k3 s', r3_4 s', k7 s', l7 s', gd_t, ob_s, ob2_s, ob4_s, sm_l, sm_r, ac_s, decide_true, decide_false, eq_self, ne_eq, not_false_eq_true, not_true_eq_false, if_true, if_false, ite_true, ite_false, reduceIte, or_true, true_or, or_false, false_or, and_true, true_and, Bool.false_eq_true, reduceCtorEq]
    rfl
  · show F_X2_snowOfAll_l4 3 (accN 0 ns (nR (zI h 60))) (nI (nR (zI h 60))) (wI h (snC (zI h) ns sd (nR (zI h 60)))) = _
    simp only [F_X2_snowOfAll_l4, z0, Int32.le_refl, k3 s', gd_t, ob_s, ob2_s, ob4_s, sm_l, sm_r, ac_s, decide_true, decide_false, eq_self, ne_eq, not_false_eq_true, not_true_eq_false, if_true, if_false, ite_true, ite_false, reduceIte, or_true, true_or, or_false, false_or, and_true, true_and, Bool.false_eq_true, reduceCtorEq]
-- melt
def meS (f : Nat → Int32) (n : Int32) (r : Nat) : Int32 := jmax 0 (jmin 999 (f (14 + 4 * r) - n))
theorem me_eq {a n : Int32} (ha : bw a 0 999) (hn : ¬ n < 0) : a - jmin n a = jmax 0 (jmin 999 (a - n)) ∧ bw (jmax 0 (jmin 999 (a - n))) 0 999 := by
  obtain ⟨a1, a2⟩ := ha
  rw [fa_lt] at hn
  have z : (0 : Int32).toInt = 0 := rfl
  have z9 : (999 : Int32).toInt = 999 := rfl
  have rn := fb_rng n
  have e : (a - n).toInt = a.toInt - n.toInt := fb_subI (by omega) (by omega)
  have n1 : ¬ (a - n) > 999 := by
    show ¬ (999 : Int32) < a - n
    rw [fa_lt, e]
    omega
  have j1 : jmin 999 (a - n) = a - n ∨ jmin 999 (a - n) = 999 := by
    unfold jmin
    by_cases q : a - n < 999
    · rw [if_pos q]; exact Or.inl rfl
    · rw [if_neg q]; exact Or.inr rfl
  have j2 : jmin 999 (a - n) = a - n := by
    unfold jmin
    by_cases q : a - n < 999
    · rw [if_pos q]
    · rw [if_neg q]
      rw [fa_lt, e] at q
      rw [fa_eq, e]
      omega
  rw [j2]
  by_cases q : a < n
  · have q' := q
    rw [fa_lt] at q'
    have k1 : jmin n a = a := by
      unfold jmin
      rw [if_pos q]
    have k2 : jmax 0 (a - n) = 0 := by
      unfold jmax
      rw [if_neg]
      rw [fa_lt, e]
      omega
    rw [k1, k2, Int32.sub_self]
    exact ⟨rfl, by unfold bw; omega⟩
  · have q' := q
    rw [fa_lt] at q'
    have k1 : jmin n a = n := by
      unfold jmin
      rw [if_neg q]
    have k2 : jmax 0 (a - n) = a - n := by
      unfold jmax
      by_cases p : 0 < a - n
      · rw [if_pos p]
      · rw [if_neg p]
        rw [fa_lt, e] at p
        rw [fa_eq, e]
        omega
    rw [k1, k2]
    exact ⟨rfl, by unfold bw; rw [e]; omega⟩
theorem x_meltL (s : Sh h) (i : Inv (zI h 60)) (c : HR (zI h) 3 (zI h 60)) {n : Int32} (hn : ¬ n < 0) (r5 : Int32) : iter (fun z : Int32 × Hp => F_X11_melt_l25 0 n r5 z.1 z.2) FU (0, h) = some (wI h (snC (zI h) (meS (zI h 60) n) (zI h 3 15) (nR (zI h 60)))) := by
  have r8 := iR8 i
  refine iter_at (fun j => (nI j, wI h (snC (zI h) (meS (zI h 60) n) (zI h 3 15) j))) (nR (zI h 60)) _ ?_ (fun j hj => ?_) ?_ (FU_lt (by omega))
  · rw [snC_0]
    rfl
  · show F_X11_melt_l25 0 n r5 (nI j) (wI h (snC (zI h) (meS (zI h 60) n) (zI h 3 15) j)) = _
    have s' : Sh (wI h (snC (zI h) (meS (zI h 60) n) (zI h 3 15) j)) := s
    have z0 : zI (wI h (snC (zI h) (meS (zI h 60) n) (zI h 3 15) j)) 3 0 = nI (nR (zI h 60)) := by
      rw [wI_I, snC_3, if_neg (by decide), c.1.1, iR i]
    have z7 : zI (wI h (snC (zI h) (meS (zI h 60) n) (zI h 3 15) j)) 7 j = zI h 60 (14 + 4 * j) := by
      rw [wI_I, snC_7, fill_out (Nat.le_refl _)]
      exact (c.2.1 j (by omega)).2.2.2
    have em : zI h 60 (14 + 4 * j) - jmin n (zI h 60 (14 + 4 * j)) = meS (zI h 60) n j := (me_eq (irm i j hj).2.2.2 hn).1
    simp (disch := omega) only [F_X11_melt_l25, k0 s', r0_1 s', k3 s', z0, nle_f hj, r3_4 s', k7 s', l7 s', ix_t, ncl, z7, em, nI_1, gd_t, ob_s, ob2_s, ob4_s, sm_l, sm_r, ac_s, decide_true, decide_false, eq_self, ne_eq, not_false_eq_true, not_true_eq_false, if_true, if_false, ite_true, ite_false, reduceIte, or_true, true_or, or_false, false_or, and_true, true_and, Bool.false_eq_true, reduceCtorEq]
    have := snC_s (zI h) (meS (zI h 60) n) (zI h 3 15) (zI h 3 15) j
    have e3 : up2 (snC (zI h) (meS (zI h 60) n) (zI h 3 15) j) 3 15 (zI h 3 15) = snC (zI h) (meS (zI h 60) n) (zI h 3 15) j := by
      funext a k
      by_cases ha : a = 3
      · subst ha
        by_cases hk : k = 15
        · subst hk
          rw [up2_e, snC_3, if_pos rfl]
        · rw [up2_k _ _ _ _ _ hk]
      · rw [up2_a _ _ _ _ _ ha]
    rw [e3] at this
    rw [← this]
    rfl
  · show F_X11_melt_l25 0 n r5 (nI (nR (zI h 60))) (wI h (snC (zI h) (meS (zI h 60) n) (zI h 3 15) (nR (zI h 60)))) = _
    have s' : Sh (wI h (snC (zI h) (meS (zI h 60) n) (zI h 3 15) (nR (zI h 60)))) := s
    have z0 : zI (wI h (snC (zI h) (meS (zI h 60) n) (zI h 3 15) (nR (zI h 60)))) 3 0 = nI (nR (zI h 60)) := by
      rw [wI_I, snC_3, if_neg (by decide), c.1.1, iR i]
    simp only [F_X11_melt_l25, k0 s', r0_1 s', k3 s', z0, Int32.le_refl, gd_t, ob_s, ob2_s, ob4_s, sm_l, sm_r, ac_s, decide_true, decide_false, eq_self, ne_eq, not_false_eq_true, not_true_eq_false, if_true, if_false, ite_true, ite_false, reduceIte, or_true, true_or, or_false, false_or, and_true, true_and, Bool.false_eq_true, reduceCtorEq]
/-- the reference's heaps while it snows or melts -/
def snM (h : Hp) (ns : Nat → Int32) (sd : Int32) (n : Nat) : Hp := wI h (va_up (zI h) 60 (snF (zI h 60) ns sd n))
theorem snM_s {ns : Nat → Int32} {sd : Int32} {n : Nat} (s : Sh h) : Sh (snM h ns sd n) := s
theorem snM_60 {ns : Nat → Int32} {sd : Int32} {n : Nat} : zI (snM h ns sd n) 60 = snF (zI h 60) ns sd n := wv_e
theorem snM_0 {ns : Nat → Int32} : snM h ns (zI h 60 10) 0 = h := by
  unfold snM
  rw [snF_0, va_same]
  rfl
theorem m_meltL (s : Sh h) (i : Inv (zI h 60)) (n : Int32) : iter (fun z : Int32 × Int32 × Hp => F_X12_melt_l28 59 n z.1 z.2.1 z.2.2) FU (0, 0, h) = some (0 - dlS (zI h 60) (meS (zI h 60) n) (nR (zI h 60)), snM h (meS (zI h 60) n) (zI h 60 10) (nR (zI h 60))) := by
  have r8 := iR8 i
  refine iter_at (fun j => (0 - dlS (zI h 60) (meS (zI h 60) n) j, nI j, snM h (meS (zI h 60) n) (zI h 60 10) j)) (nR (zI h 60)) _ ?_ (fun j hj => ?_) ?_ (FU_lt (by omega))
  · rw [snM_0, show (0 : Int32) - dlS (zI h 60) (meS (zI h 60) n) 0 = 0 by show (0 : Int32) - 0 = 0; decide]
    rfl
  · show F_X12_melt_l28 59 n (0 - dlS (zI h 60) (meS (zI h 60) n) j) (nI j) (snM h (meS (zI h 60) n) (zI h 60 10) j) = _
    have s' : Sh (snM h (meS (zI h 60) n) (zI h 60 10) j) := s
    have z0 : zI (snM h (meS (zI h 60) n) (zI h 60 10) j) 60 0 = nI (nR (zI h 60)) := by
      rw [snM_60, snF_o (by decide) (fun r hr => by omega), iR i]
    have zj : zI (snM h (meS (zI h 60) n) (zI h 60 10) j) 60 (14 + 4 * j) = zI h 60 (14 + 4 * j) := by
      rw [snM_60, snF_o (by omega) (fun r hr => by omega)]
    simp (disch := omega) only [F_X12_melt_l28, m_rooms s', z0, k59 s', nle_f hj, m_ofS s', zj, m_snows s', nI_1, gd_t, ob_s, ob2_s, ob4_s, sm_l, sm_r, ac_s, decide_true, decide_false, eq_self, ne_eq, not_false_eq_true, not_true_eq_false, if_true, if_false, ite_true, ite_false, reduceIte, or_true, true_or, or_false, false_or, and_true, true_and, Bool.false_eq_true, reduceCtorEq]
    have e1 : (0 : Int32) - dlS (zI h 60) (meS (zI h 60) n) j - (jmax 0 (jmin 999 (zI h 60 (14 + 4 * j) - n)) - zI h 60 (14 + 4 * j)) = 0 - dlS (zI h 60) (meS (zI h 60) n) (j + 1) := by
      show (0 : Int32) - dlS (zI h 60) (meS (zI h 60) n) j - (meS (zI h 60) n j - zI h 60 (14 + 4 * j)) = 0 - (dlS (zI h 60) (meS (zI h 60) n) j + (meS (zI h 60) n j - zI h 60 (14 + 4 * j)))
      rw [Int32.zero_sub, Int32.zero_sub, Int32.neg_add]
    have e2 : setI (snM h (meS (zI h 60) n) (zI h 60 10) j) 60 (14 + 4 * j) (jmax 0 (jmin 999 (zI h 60 (14 + 4 * j) - n))) = snM h (meS (zI h 60) n) (zI h 60 10) (j + 1) := by
      have q := snF_s (zI h 60) (meS (zI h 60) n) (zI h 60 10) (zI h 60 10) j
      have q2 : va_up (snF (zI h 60) (meS (zI h 60) n) (zI h 60 10) j) 10 (zI h 60 10) = snF (zI h 60) (meS (zI h 60) n) (zI h 60 10) j := by
        funext k
        by_cases hk : k = 10
        · subst hk
          rw [va_e, snF_10]
        · rw [va_n _ _ _ _ hk]
      rw [q2] at q
      unfold snM
      rw [← q, setI_w, wI_I, wI_w, up2_va]
      rfl
    rw [e1, e2]
  · show F_X12_melt_l28 59 n (0 - dlS (zI h 60) (meS (zI h 60) n) (nR (zI h 60))) (nI (nR (zI h 60))) (snM h (meS (zI h 60) n) (zI h 60 10) (nR (zI h 60))) = _
    have s' : Sh (snM h (meS (zI h 60) n) (zI h 60 10) (nR (zI h 60))) := s
    have z0 : zI (snM h (meS (zI h 60) n) (zI h 60 10) (nR (zI h 60))) 60 0 = nI (nR (zI h 60)) := by
      rw [snM_60, snF_o (by decide) (fun r hr => by omega), iR i]
    simp only [F_X12_melt_l28, m_rooms s', z0, k59 s', Int32.le_refl, gd_t, ob_s, ob2_s, ob4_s, sm_l, sm_r, ac_s, decide_true, decide_false, eq_self, ne_eq, not_false_eq_true, not_true_eq_false, if_true, if_false, ite_true, ite_false, reduceIte, or_true, true_or, or_false, false_or, and_true, true_and, Bool.false_eq_true, reduceCtorEq]
theorem neg_sub2 (a b : Int32) : b - a = 0 - (a - b) := by
  rw [Int32.zero_sub, Int32.neg_sub]
theorem j_melt (g : GS h) (n : Int32) : JB h (F_L_melt 0 n 72) (F_X12_melt 59 n) := by
  obtain ⟨s, i, c, -⟩ := id g
  by_cases hn : n < 0
  · have hn' : (0 ≤ n) = False := eq_false (fun q => Int32.not_lt.mpr q hn)
    have e : F_X11_melt 0 n h = some (.inr 0, h, 1, 6) := by
      simp only [F_X11_melt, F_X11_melt_b0, hn', gd_t, ob_s, ob2_s, ob4_s, sm_l, sm_r, ac_s, decide_true, decide_false, eq_self, ne_eq, not_false_eq_true, not_true_eq_false, if_true, if_false, ite_true, ite_false, reduceIte, or_true, true_or, or_false, false_or, and_true, true_and, Bool.false_eq_true, reduceCtorEq]
    refine JB_t g (k := 1) (by decide) ?_ ⟨0, zI (tk h 1), ?_, tk_m, tk_z⟩
    · unfold F_L_melt; rw [gd_d (k0 s), e, ob4_s]; rfl
    · simp only [F_X12_melt, F_X12_melt_b0, F_X12_melt_b15, hn', m_thr1 (t0_s s), k59 s, r59_1 s, k60 s, l60 s, k0 s, r0_1 s, k3 s, r3_1 s, r3_2 s, r3_3 s, r3_4 s, r3_6 s, r3_7 s, r3_8 s, r3_9 s, r3_16 s, k4 s, k5 s, k6 s, k7 s, k8 s, k9 s, l4 s, l5 s, l6 s, l7 s, l8 s, l9 s, k11 s, r11_1 s, r11_2 s, r11_3 s, k12 s, k13 s, k14 s, l12 s, l13 s, l14 s, k15 s, r0_0 s, k1 s, t0_d, tk_d, t0_k, t0_l, t0_r, t0_60, tk_k, tk_l, tk_r, tk_60, hS_k, hS_l, hS_r, hS_60, one0, b2_t, b2_f, Bool.not_true, Bool.not_false, Bool.false_eq_true, gd_t, ob_s, ob2_s, ob4_s, sm_l, sm_r, ac_s, decide_true, decide_false, eq_self, ne_eq, not_false_eq_true, not_true_eq_false, if_true, if_false, ite_true, ite_false, reduceIte, or_true, true_or, or_false, false_or, and_true, true_and, Bool.false_eq_true, reduceCtorEq]
      rfl
  · have hn' : (0 ≤ n) = True := eq_true (Int32.not_lt.mp hn)
    have e : F_X11_melt 0 n h = some (.inl (0 - dlS (zI h 60) (meS (zI h 60) n) (nR (zI h 60))), wI h (snC (zI h) (meS (zI h 60) n) (zI h 3 15) (nR (zI h 60))), 0, 0) := by
      have s' : Sh (wI h (snC (zI h) (meS (zI h 60) n) (zI h 3 15) (nR (zI h 60)))) := s
      have es : snS (zI h 60) - accN 0 (meS (zI h 60) n) (nR (zI h 60)) = 0 - dlS (zI h 60) (meS (zI h 60) n) (nR (zI h 60)) := by
        rw [← dl_sum, neg_sub2]
        rfl
      simp only [F_X11_melt, F_X11_melt_b0, hn', x_snow s i c, x_meltL s i c hn, x_snow2 s i c, k0 s', r0_1 s', k3 s', es, k59 s, r59_1 s, k60 s, l60 s, k0 s, r0_1 s, k3 s, r3_1 s, r3_2 s, r3_3 s, r3_4 s, r3_6 s, r3_7 s, r3_8 s, r3_9 s, r3_16 s, k4 s, k5 s, k6 s, k7 s, k8 s, k9 s, l4 s, l5 s, l6 s, l7 s, l8 s, l9 s, k11 s, r11_1 s, r11_2 s, r11_3 s, k12 s, k13 s, k14 s, l12 s, l13 s, l14 s, k15 s, r0_0 s, k1 s, gd_t, ob_s, ob2_s, ob4_s, sm_l, sm_r, ac_s, decide_true, decide_false, eq_self, ne_eq, not_false_eq_true, not_true_eq_false, if_true, if_false, ite_true, ite_false, reduceIte, or_true, true_or, or_false, false_or, and_true, true_and, Bool.false_eq_true, reduceCtorEq]
    refine JB_w g (r := 0 - dlS (zI h 60) (meS (zI h 60) n) (nR (zI h 60))) (J1 := snC (zI h) (meS (zI h 60) n) (zI h 3 15) (nR (zI h 60))) (J2 := snJ (zI h) (meS (zI h 60) n) (zI h 3 15) (nR (zI h 60))) ?_ ?_ ?_ (sn_gs g (fun r hr => (me_eq (irm i r hr).2.2.2 hn).2) _)
    · unfold F_L_melt; rw [gd_d (k0 s), e, ob4_s]; exact put_out (Sh_w s _) _
    · have s' : Sh (setL (wI h (snC (zI h) (meS (zI h 60) n) (zI h 3 15) (nR (zI h 60)))) 72 0 (0 - dlS (zI h 60) (meS (zI h 60) n) (nR (zI h 60))).toInt64) := s
      have e60 : zI (t0 (setL (wI h (snC (zI h) (meS (zI h 60) n) (zI h 3 15) (nR (zI h 60)))) 72 0 (0 - dlS (zI h 60) (meS (zI h 60) n) (nR (zI h 60))).toInt64)) 60 = zI h 60 := by
        refine t0_60.trans ?_
        rw [zI_setL, wI_I]
        exact snC_o (by decide) (by decide)
      have ml := m_meltL (t0_s s') (by rw [e60]; exact i) n
      rw [e60] at ml
      simp only [F_X12_melt, F_X12_melt_b0, F_X12_melt_b15, hn', m_thr0 (t0_s s'), t0_d, k59 s', t0_k, ml, un2, gd_t, ob_s, ob2_s, ob4_s, sm_l, sm_r, ac_s, decide_true, decide_false, eq_self, ne_eq, not_false_eq_true, not_true_eq_false, if_true, if_false, ite_true, ite_false, reduceIte, or_true, true_or, or_false, false_or, and_true, true_and, Bool.false_eq_true, reduceCtorEq]
      have e315 : zI h 60 10 = zI h 3 15 := (c.1.2.2.2.2.2.2.2.2.2.2).symm
      rw [e315]
      unfold snM
      rw [e60]
      rfl
    · unfold snJ
      rw [va_n _ _ _ _ (by decide), up2_e]
end SNOW
