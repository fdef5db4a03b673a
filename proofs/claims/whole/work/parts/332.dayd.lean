/-! A DAY: the class, a minute and all of them -/
section DAYD
variable {h : Hp} {f : Nat → Int32}
theorem x_dir (x s : Int32) : ∃ v, F_X1_direction x s h = some v ∧ dI3 v (dirS x s) := by
  unfold F_X1_direction F_X1_direction_b0 F_X1_direction_b18 dirS
  by_cases q : s < x
  · rw [if_neg (Int32.not_le.mpr q), if_pos q]
    exact ⟨1, rfl, Or.inl ⟨rfl, rfl⟩⟩
  · rw [if_pos (Int32.not_lt.mp q), if_neg q]
    by_cases w : x < 0 - s
    · rw [if_neg (Int32.not_le.mpr w), if_pos w]
      exact ⟨-1, rfl, Or.inr (Or.inl ⟨rfl, rfl⟩)⟩
    · rw [if_pos (Int32.not_lt.mp w), if_neg w]
      exact ⟨0, rfl, Or.inr (Or.inr ⟨rfl, rfl⟩)⟩
theorem x_endMinute (s : Sh h) (i : Inv f) (c : HR (zI h) 3 f) (bb : dB h f) {m : Nat} (hm : m < 1000) {S T D : Nat → Int32} {sl : Nat} {sp : Int32} (oS : okS f (nG f) S) (oT : okS f (nT f) T) (d2 : D 2 = sp) (d3 : D 3 = nI sl) (L : Nat) : ∃ D', F_X1_endMinute 53 3 (nI m) (dC h S T D) = some (b2 (decide (0 < (mnT1 f S T).2 + (mnT2 f S T).2)), dC h S (mnT2 f S T).1 D') ∧ D' 2 = (mnE f m S L T sl sp).2.2.2.2 ∧ D' 3 = nI (mnE f m S L T sl sp).2.2.2.1 := by
  have r8 := iR8 i
  have t6 := iT6 i
  have p4 : ∀ S T D, PL (dC h S T D) 4 f 0 := fun S T D => pl4 (dC_s s) (dC_c i c)
  have p5 : ∀ S T D, PL (dC h S T D) 5 f 1 := fun S T D => pl5 (dC_s s) (dC_c i c)
  have s' : ∀ S T D, Sh (dC h S T D) := fun S T D => s
  have c' : ∀ S T D, HR (zI (dC h S T D)) 3 f := fun S T D => dC_c i c
  have hs : ∀ T D, seated (dC h S T D) 54 (nG f) (cf S) := fun T D g hg => by
    obtain ⟨o1, o2⟩ := okS_cf i oS hg
    rw [dC_54]
    exact ⟨o1, by omega⟩
  have e11 : ∀ S T D, zI (dC h S T D) 3 11 = nI (sR f) := fun S T D => (c' S T D).1.2.2.2.2.2.2.1.trans (iS i).1
  have e13 : ∀ S T D, zI (dC h S T D) 3 13 = f 9 := fun S T D => (c' S T D).1.2.2.2.2.2.2.2.2.2.1
  have e0 : ∀ S T D, zI (dC h S T D) 3 0 = nI (nR f) := fun S T D => (c' S T D).1.1.trans (iR i)
  obtain ⟨v1, ev1, hv1⟩ := x_dir (h := dC h S T D) (netS f 0 (cf S)) (f 9)
  obtain ⟨v2, ev2, hv2⟩ := x_dir (h := dC h S (mnT1 f S T).1 D) (netS f 1 (cf S)) (f 9)
  have oT1 : okS f (nT f) (mnT1 f S T).1 := (slS_ok i oT).1
  have oT2 : okS f (nT f) (mnT2 f S T).1 := (slS_ok i oT1).1
  have sa1 : F_X8_slideAll 55 4 5 v1 (nI (nR f)) (dC h S T D) = some (nI (mnT1 f S T).2, dC h S (mnT1 f S T).1 D) := x_slideAll s i c bb (by omega) p4 p5 hv1 oT
  have sa2 : F_X8_slideAll 55 5 4 v2 (nI (nR f)) (dC h S (mnT1 f S T).1 D) = some (nI (mnT2 f S T).2, dC h S (mnT2 f S T).1 D) := x_slideAll s i c bb (by omega) p5 p4 hv2 oT1
  have nX : ∀ T D, F_X2_netOfGuests 3 4 54 (dC h S T D) = some (gst f 0 (cf S)) := fun T D => x_netOfGuests (s' S T D) i (c' S T D) (p4 S T D) (k54 s) (l54 s) (hs T D)
  have nY : ∀ T D, F_X2_netOfGuests 3 5 54 (dC h S T D) = some (gst f 1 (cf S)) := fun T D => x_netOfGuests (s' S T D) i (c' S T D) (p5 S T D) (k54 s) (l54 s) (hs T D)
  have eX : thg f 0 (sR f) + gst f 0 (cf S) = netS f 0 (cf S) := rfl
  have eY : thg f 1 (sR f) + gst f 1 (cf S) = netS f 1 (cf S) := rfl
  have d3' : zI (dC h S (mnT2 f S T).1 D) 53 3 = nI sl := by rw [dC_53, d3]
  have lv : F_X2_isLevelAt 3 (netS f 0 (cf S)) (netS f 1 (cf S)) 55 (dC h S (mnT2 f S T).1 (va_up D 3 (nI (sl + ((mnT1 f S T).2 + (mnT2 f S T).2))))) = some (b2 (mnL f S (mnT2 f S T).1)) := x_isLevelAt (s' _ _ _) i (c' _ _ _) (dC_tv s i bb oT2) _ _
  have d2' : zI (dC h S (mnT2 f S T).1 (va_up D 3 (nI (sl + ((mnT1 f S T).2 + (mnT2 f S T).2))))) 53 2 = sp := by rw [dC_53, va_n _ _ _ _ (by decide), d2]
  have e153 : ∀ H, F_X1_endMinute_b153 (nI ((mnT1 f S T).2 + (mnT2 f S T).2)) H = some (b2 (decide (0 < (mnT1 f S T).2 + (mnT2 f S T).2)), H) := by
    intro H
    have a1 : (mnT1 f S T).2 ≤ nT f := (slS_ok i oT).2.1
    have a2 : (mnT2 f S T).2 ≤ nT f := (slS_ok i oT1).2.1
    unfold F_X1_endMinute_b153 F_X1_endMinute_b163
    rw [z_g, o_g]
    by_cases q : 0 < (mnT1 f S T).2 + (mnT2 f S T).2
    · rw [if_neg (nI_nle q (by omega)), decide_eq_true q]; rfl
    · rw [show (mnT1 f S T).2 + (mnT2 f S T).2 = 0 by omega, if_pos (by decide)]; rfl
  unfold F_X1_endMinute F_X1_endMinute_b0
  rw [gd_d (k3 (s' _ _ _)), r3_1 (s' _ _ _), ob_s, e11, x_netOfThings (s' _ _ _) i (c' _ _ _) (p4 _ _ _) (iS i).2.1, ob_s, ob_s, gd_d (k53 (s' _ _ _)), r53_0 (s' _ _ _), ob_s, nX, ob_s, r3_2 (s' _ _ _), ob_s, x_netOfThings (s' _ _ _) i (c' _ _ _) (p5 _ _ _) (iS i).2.1, ob_s, ob_s, ob_s, nY, ob_s, r53_1 (s' _ _ _), ob_s, ob_s, ob_s, e13, eX, eY, ev1, ob_s, e0, sa1, ob2_s, gd_d (k55 (s' _ _ _)), gd_d (k53 (s' _ _ _)), r53_1 (s' _ _ _), ob_s, gd_d (k3 (s' _ _ _)), r3_2 (s' _ _ _), ob_s, r3_1 (s' _ _ _), ob_s, e13, ev2, ob_s, e0, sa2, ob2_s, gd_d (k55 (s' _ _ _)), gd_d (k53 (s' _ _ _)), nadd, d3', nadd, dC_w53, d2', r53_1 (s' _ _ _), ob_s, lv, ob_s, gd_d (k3 (s' _ _ _)), e153, e153, dC_w53]
  by_cases q : sp = -1
  · rw [if_pos q]
    cases w : mnL f S (mnT2 f S T).1 with
    | false =>
      rw [b2_f, if_pos rfl]
      refine ⟨_, rfl, ?_, ?_⟩
      · rw [va_e]
        exact (if_pos ⟨q, w⟩).symm
      · rw [va_n _ _ _ _ (by decide), va_e]
        rfl
    | true =>
      rw [b2_t, if_neg (by decide)]
      refine ⟨_, rfl, ?_, ?_⟩
      · rw [va_n _ _ _ _ (by decide), d2]
        exact (if_neg (fun z => by rw [w] at z; exact absurd z.2 (by decide))).symm
      · rw [va_e]
        rfl
  · rw [if_neg q]
    refine ⟨_, rfl, ?_, ?_⟩
    · rw [va_n _ _ _ _ (by decide), d2]
      exact (if_neg (fun z => q z.1)).symm
    · rw [va_e]
      rfl
def dyR (f : Nat → Int32) (S0 T0 : Nat → Int32) (m : Nat) : DS := foldN (mnU f) m (S0, 0, T0, 0, -1)
theorem dyR_i (i : Inv f) {S0 T0 : Nat → Int32} (oS : okS f (nG f) S0) (oT : okS f (nT f) T0) : ∀ m, m ≤ 1000 → dyI f S0 T0 m (dyR f S0 T0 m) := foldN_inv (fun m z => dyI f S0 T0 m z) (n := 1000) ⟨oS, Nat.zero_le _, oT, Nat.le_refl _, fun _ _ => rfl, fun _ _ => rfl, Or.inl rfl⟩ (fun j a hj ha => mnU_ok i hj ha)
theorem x_passL (s : Sh h) (i : Inv f) (c : HR (zI h) 3 f) (bb : dB h f) {S0 T0 D0 : Nat → Int32} (oS : okS f (nG f) S0) (oT : okS f (nT f) T0) (d2 : D0 2 = -1) (d3 : D0 3 = 0) : ∃ D, D 2 = (dyR f S0 T0 1000).2.2.2.2 ∧ D 3 = nI (dyR f S0 T0 1000).2.2.2.1 ∧ iter (fun z : Int32 × Int32 × Int32 × Hp => F_X1_pass_l42 53 3 z.1 z.2.1 z.2.2.1 z.2.2.2) FU (0, 1, 0, dC h S0 T0 D0) = some (dC h (dyR f S0 T0 1000).1 (dyR f S0 T0 1000).2.2.1 D) := by
  have b20 := iB20 i
  have run : ∀ m, m ≤ 1000 → ∃ D mv, D 2 = (dyR f S0 T0 m).2.2.2.2 ∧ D 3 = nI (dyR f S0 T0 m).2.2.2.1 ∧ (mv = false → stl f (dyR f S0 T0 m)) ∧ ∀ fuel, iter (fun z : Int32 × Int32 × Int32 × Hp => F_X1_pass_l42 53 3 z.1 z.2.1 z.2.2.1 z.2.2.2) (fuel + m) (0, 1, 0, dC h S0 T0 D0) = iter (fun z : Int32 × Int32 × Int32 × Hp => F_X1_pass_l42 53 3 z.1 z.2.1 z.2.2.1 z.2.2.2) fuel (nI (dyR f S0 T0 m).2.1, b2 mv, nI m, dC h (dyR f S0 T0 m).1 (dyR f S0 T0 m).2.2.1 D) := by
    intro m
    induction m with
    | zero => intro _; exact ⟨D0, true, d2, d3, fun q => absurd q (by decide), fun fuel => rfl⟩
    | succ m ih =>
      intro hm
      obtain ⟨D, mv, a1, a2, a3, a4⟩ := ih (by omega)
      have inv := dyR_i i oS oT m (by omega)
      have es : dyR f S0 T0 (m + 1) = mnU f m (dyR f S0 T0 m) := rfl
      rw [es]
      generalize hz : dyR f S0 T0 m = z at *
      obtain ⟨i1, i2, i3, i4, i5, i6, i7⟩ := inv
      obtain ⟨w1, w2, w3, w4, w5⟩ := wk_ok i m 21 (z.1, z.2.1) i1 i2
      have s' : ∀ S T D, Sh (dC h S T D) := fun S T D => s
      have wa : ∀ D, F_X1_walkAll 53 15 (nI z.2.1) (nI m) (dC h z.1 z.2.2.1 D) = some (nI (wkS f m 21 (z.1, z.2.1)).2, dC h (wkS f m 21 (z.1, z.2.1)).1 z.2.2.1 D) := fun D => by
        unfold F_X1_walkAll F_X1_walkAll_b0 F_X1_walkAll_b55
        refine (ob_p (x_walkAll s i c m (by omega) 21 i2 (by omega) FU (by show 21 ≤ 1000000000; omega)) _).trans rfl
      obtain ⟨D', e1, e2, e3⟩ := x_endMinute s i c bb (show m < 1000 by omega) w1 i3 a1 a2 (wkS f m 21 (z.1, z.2.1)).2
      have eb : F_X1_pass_b75 53 3 (nI (wkS f m 21 (z.1, z.2.1)).2) (nI m) (dC h (wkS f m 21 (z.1, z.2.1)).1 z.2.2.1 D) = some (.inl (nI (mnU f m z).2.1, b2 (decide (0 < (mnT1 f (wkS f m 21 (z.1, z.2.1)).1 z.2.2.1).2 + (mnT2 f (wkS f m 21 (z.1, z.2.1)).1 z.2.2.1).2)), nI (m + 1), dC h (mnU f m z).1 (mnU f m z).2.2.1 D')) := by
        unfold F_X1_pass_b75 F_X1_pass_b83
        rw [e1, ob2_s, gd_d (k53 (s' _ _ _)), nI_1]
        rfl
      have body : F_X1_pass_l42 53 3 (nI z.2.1) (b2 mv) (nI m) (dC h z.1 z.2.2.1 D) = if mv = false ∧ (wkS f m 21 (z.1, z.2.1)).2 = z.2.1 then some (.inl (nI z.2.1, b2 mv, nI (m + 1), dC h z.1 z.2.2.1 D)) else some (.inl (nI (mnU f m z).2.1, b2 (decide (0 < (mnT1 f (wkS f m 21 (z.1, z.2.1)).1 z.2.2.1).2 + (mnT2 f (wkS f m 21 (z.1, z.2.1)).1 z.2.2.1).2)), nI (m + 1), dC h (mnU f m z).1 (mnU f m z).2.2.1 D')) := by
        unfold F_X1_pass_l42
        rw [nl_1000, if_neg (nI_ge (by omega) (by omega)), gd_d (k3 (s' _ _ _)), r3_16 (s' _ _ _), ob_s, wa, ob2_s, gd_d (k53 (s' _ _ _)), eb]
        cases mv with
        | true => rw [b2_t, if_neg (by decide), if_neg (fun q => absurd q.1 (by decide))]
        | false =>
          have w3' : z.2.1 ≤ (wkS f m 21 (z.1, z.2.1)).2 := w3
          rw [b2_f, if_pos rfl]
          by_cases q : (wkS f m 21 (z.1, z.2.1)).2 = z.2.1
          · rw [if_pos (show nI (wkS f m 21 (z.1, z.2.1)).2 ≤ nI z.2.1 by rw [q]; exact Int32.le_refl _), if_pos ⟨rfl, q⟩]
            unfold F_X1_pass_b83
            rw [w5 q, nI_1]
          · rw [if_neg (show ¬ nI (wkS f m 21 (z.1, z.2.1)).2 ≤ nI z.2.1 from nI_ge (by omega) (by omega)), if_neg (fun w => q w.2)]
      by_cases q : mv = false ∧ (wkS f m 21 (z.1, z.2.1)).2 = z.2.1
      · rw [if_pos q] at body
        have em : mnU f m z = z := by
          unfold mnU
          rw [w5 q.2]
          exact mnE_st (a3 q.1)
        rw [em]
        refine ⟨D, mv, a1, a2, a3, fun fuel => ?_⟩
        rw [show fuel + (m + 1) = fuel + 1 + m by omega, a4]
        exact iter_st body fuel
      · rw [if_neg q] at body
        refine ⟨D', decide (0 < (mnT1 f (wkS f m 21 (z.1, z.2.1)).1 z.2.2.1).2 + (mnT2 f (wkS f m 21 (z.1, z.2.1)).1 z.2.2.1).2), e2, e3, fun w => ?_, fun fuel => ?_⟩
        · have w' := of_decide_eq_false w
          exact mnE_stl (by omega) (by omega) (by omega)
        · rw [show fuel + (m + 1) = fuel + 1 + m by omega, a4]
          exact iter_st body fuel
  obtain ⟨D, mv, a1, a2, -, a4⟩ := run 1000 (Nat.le_refl _)
  refine ⟨D, a1, a2, ?_⟩
  have hF : FU = 999998999 + 1 + 1000 := rfl
  rw [hF, a4]
  refine iter_en ?_ _
  show F_X1_pass_l42 53 3 _ _ (nI 1000) _ = _
  unfold F_X1_pass_l42
  rw [nl_1000, if_pos (Int32.le_refl _)]
end DAYD
