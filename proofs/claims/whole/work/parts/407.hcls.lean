/-! THE CALL house: the class, and what both share -/
section HCLS
variable {h : Hp} {b : Nat → Int32} {n : Nat} {F : Nat → Int32}
theorem GS_t {JF : Nat → Nat → Int32} (g : GS h) (i : Inv (JF 60)) (c : HR JF 3 (JF 60)) (e2 : ∀ k, k < 400 → JF 2 k = zI h 2 k) (e63 : ∀ k, k < 400 → JF 63 k = zI h 63 k) (eo : ∀ a k, (a = 61 ∨ 73 ≤ a) → JF a k = zI h a k) (e4 : JF 59 4 = zI h 59 4) (x1 : JF 1 1 = 0) (x6 : JF 59 6 = 0) (xf : JF 1 6 = JF 59 11) : GS (wI h JF) := by
  have g0 := g
  obtain ⟨s, -, -, t, -⟩ := g
  refine GS_c g0 i c ?_ ?_
  · unfold TP
    refine ⟨fun k hk => ?_, by rw [x1, x6], xf, 0, by omega, x1⟩
    rw [e2 k hk, e63 k hk]
    exact t.1 k hk
  · intro a k ha _ _
    rcases ha with rfl | ha | ⟨rfl, rfl⟩
    · exact eo 61 k (Or.inl rfl)
    · exact eo a k (Or.inr ha)
    · exact e4
theorem GS_same {JF : Nat → Nat → Int32} (g : GS h) (e60 : ∀ k, k < 4232 → JF 60 k = zI h 60 k) (e3 : ∀ a, 2 ≤ a → a < 36 → JF a = zI h a) (e63 : JF 63 = zI h 63) (eo : ∀ a, (a = 61 ∨ 73 ≤ a) → JF a = zI h a) (e4 : JF 59 4 = zI h 59 4) (x1 : JF 1 1 = 0) (x6 : JF 59 6 = 0) (xf : JF 1 6 = JF 59 11) : GS (wI h JF) := by
  have i := g.2.1
  have c := g.2.2.1
  refine GS_t g (Inv_congr e60 i) (HR_congr (f := zI h 60) (fun a ha => e3 _ (by omega) (by omega)) (fun g hg => ⟨e3 _ (by omega) (by omega), e3 _ (by omega) (by omega)⟩) e60 i c) (fun k _ => by rw [e3 2 (by omega) (by omega)]) (fun k _ => by rw [e63]) (fun a k ha => by rw [eo a ha]) e4 x1 x6 xf
theorem r0_2 (s : Sh h) : zR h 0 2 = some 36 := by unfold Sh at s; simp only [s]
/-- the numbers that the text's lines begin from -/
def cnJ (h : Hp) : Nat → Nat → Int32 := up2 (up2 (up2 (zI h) 36 2 (zI h 3 0)) 36 3 (zI h 3 5)) 36 4 (zI h 11 0)
theorem x_count (s : Sh h) : F_X3_countFrom 36 3 h = some ((), wI h (cnJ h)) := by
  obtain ⟨a1, a2, a3, a4⟩ := k36 s
  unfold F_X3_countFrom F_X3_countFrom_b0
  simp (disch := decide) only [setI_w, setA_w, wI_I, wI_R, wI_k, wI_l, wI_L, wI_N, wI_w, k3 s, a1, r3_9 s, k11 s, up2_a, gd_t, ob_s, ob2_s, ob4_s, sm_l, sm_r, ac_s, decide_true, decide_false, eq_self, ne_eq, not_false_eq_true, not_true_eq_false, if_true, if_false, ite_true, ite_false, reduceIte, or_true, true_or, or_false, false_or, and_true, true_and, Bool.false_eq_true, reduceCtorEq]
  rfl
theorem cT_ww {J I : Nat → Nat → Int32} {q : Nat} {t w : Int32} : cT (wI h I) b n J F q t w = cT h b n J F q t w := rfl
/-- the house's text, both sides -/
theorem hs_txt (s : Sh h) (i : Inv (zI h 60)) (c : HR (zI h) 3 (zI h 60)) (hn : n ≤ 400) (e11 : zI h 1 1 = nI n) {K : Nat → Nat → Int32} {G : Nat → Int32} (hK60 : K 60 = zI h 60) (hK63 : ∀ k, k < 400 → K 63 k = zI h 2 k) (hG : G 6 = nI n) :
    (∃ f q' J' t' K' G' p', F_X7_readLines_k3 36 1 3 14 (wI h (cnJ h)) = some (0, cT h (zI h 2) n J' (zI h 1) q' t' (nI f)) ∧ (∀ hM, Sh hM → F_X12_readAll 59 0 (rfS hM K G) = some (-1, rfT hM K' G' p' f)) ∧ RHF (zI h) K (gB G) J' K' G') ∨
    (∃ i' q' J' t' K' G' p' g', F_X7_readLines_k3 36 1 3 14 (wI h (cnJ h)) = some (1, cT h (zI h 2) n J' (zI h 1) q' t' (-1)) ∧ (∀ hM, Sh hM → F_X12_readAll 59 0 (rfS hM K G) = some (nI i', rfT hM K' G' p' g')) ∧ i' ≤ 14 ∧ RHs (zI h 2) n (zI h 1) (zI h) K (gB G) i' J' K' G') := by
  have s8 : Sh (wI h (cnJ h)) := Sh_w s _
  have jf : ∀ a, a ≠ 36 → cnJ h a = zI h a := fun a ha => by unfold cnJ; rw [up2_a _ _ _ _ _ ha, up2_a _ _ _ _ _ ha, up2_a _ _ _ _ _ ha]
  have j1 : cnJ h 1 = zI h 1 := jf 1 (by decide)
  have j2 : cnJ h 2 = zI h 2 := jf 2 (by decide)
  have tc : TC (zI h 2) n (cnJ h) (zI h 1) := ⟨hn, e11, fun _ _ => by rw [j2]⟩
  have tm : TM (zI h 2) n K (gB G) := ⟨hn, by unfold gB; rw [va_o _ _ (by decide), va_o _ _ (by decide), va_e]; exact hG, hK63⟩
  have y2 : up2 (cnJ h) 36 0 0 36 2 = nI (nR (K 60)) := by
    rw [up2_k _ _ _ _ _ (by decide), hK60]
    unfold cnJ
    rw [up2_k _ _ _ _ _ (by decide), up2_k _ _ _ _ _ (by decide), up2_e, c.1.1]
    exact iR i
  have y3 : up2 (cnJ h) 36 0 0 36 3 = nI (nG (K 60)) := by
    rw [up2_k _ _ _ _ _ (by decide), hK60]
    unfold cnJ
    rw [up2_k _ _ _ _ _ (by decide), up2_e, c.1.2.1]
    exact iG i
  have y4 : up2 (cnJ h) 36 0 0 36 4 = nI (nT (K 60)) := by
    rw [up2_k _ _ _ _ _ (by decide), hK60]
    unfold cnJ
    rw [up2_e, show zI h 11 0 = zI h 60 2 from c.1.2.2.1]
    exact iT i
  have key := text_joint (b := zI h 2) (n := n) (F := zI h 1) (h := wI h (cnJ h)) s8 (J := cnJ h) (K := K) (G := G) (v0 := 36) (kc := 3) (most := 14) tc hG hK63 (by decide) (by decide) (k36 s).1 (by decide) (house_line s8 (J0 := zI h) (K0 := K) (G0 := gB G) (by rw [hK60]; exact i)) sort_house (fun i J K G r => RH_F r) ⟨TC_up tc (by decide), tm, up2_e _ _ _ _, rfl, fun a h1 _ => by rw [up2_a _ _ _ _ _ h1, jf a h1], fun _ _ => rfl, fun j hj => absurd hj (by omega), rfl, y2, y3, y4⟩
  have es : cS (wI h (cnJ h)) (cnJ h) (zI h 1) = wI h (cnJ h) := by
    have := cS_self (h := wI h (cnJ h))
    rw [wI_I, j1] at this
    exact this
  rw [es] at key
  simp only [cT_ww] at key
  exact key
theorem hs_c0 (s : Sh h) {J' : Nat → Nat → Int32} {q' f : Nat} {t' : Int32} (e : F_X7_readLines_k3 36 1 3 14 (wI h (cnJ h)) = some (0, cT h (zI h 2) n J' (zI h 1) q' t' (nI f))) : F_L_house 0 72 h = some (1, cS h J' (va_up (tF (zI h 2) n (zI h 1) q' t' (nI f)) 1 0), 1, 6) := by
  have x : F_X11_house 0 h = some (.inr 0, cS h J' (va_up (tF (zI h 2) n (zI h 1) q' t' (nI f)) 1 0), 1, 6) := by
    unfold F_X11_house F_X11_house_b0
    rw [gd_d (k0 s), r0_2 s, ob_s, r0_1 s, ob_s, x_count s, ob2_s, gd_d (k36 s).1, wI_k, gd_d (k0 s), wI_R, r0_2 s, ob_s, r0_0 s, ob_s, r0_1 s, ob_s, e, ob2_s, wI_k, gd_d (k36 s).1, cT_k, gd_d (k0 s), cT_R, r0_0 s, ob_s, cT_k, gd_d (k1 s), if_pos rfl]
    unfold cT
    rw [cS_set]
  unfold F_L_house
  rw [gd_d (k0 s), x, ob4_s, sm_r, if_pos rfl]
/-- what the class's cells hold when the text is used up -/
def usJ (h : Hp) (n : Nat) (J' : Nat → Nat → Int32) (q' : Nat) (t' w : Int32) : Nat → Nat → Int32 := va_up J' 1 (va_up (tF (zI h 2) n (zI h 1) q' t' w) 1 0)
theorem usJ_o {J' : Nat → Nat → Int32} {q' : Nat} {t' w : Int32} {a : Nat} (ha : a ≠ 1) : usJ h n J' q' t' w a = J' a := va_n _ _ _ _ ha
theorem usJ_1 {J' : Nat → Nat → Int32} {q' : Nat} {t' w : Int32} : usJ h n J' q' t' w 1 = va_up (tF (zI h 2) n (zI h 1) q' t' w) 1 0 := va_e _ _ _
theorem usJ_s {J' : Nat → Nat → Int32} {q' : Nat} {t' w : Int32} : setI (cT h (zI h 2) n J' (zI h 1) q' t' w) 1 1 0 = wI h (usJ h n J' q' t' w) := by
  unfold cT
  rw [cS_set]
  rfl
theorem hs_c2 (s : Sh h) {J' : Nat → Nat → Int32} {q' : Nat} {t' : Int32} (e : F_X7_readLines_k3 36 1 3 14 (wI h (cnJ h)) = some (1, cT h (zI h 2) n J' (zI h 1) q' t' (-1))) (e14 : J' 3 14 = 10) : F_L_house 0 72 h = some (2, wI h (usJ h n J' q' t' (-1)), 1, 6) := by
  have x : F_X11_house 0 h = some (.inr 1, wI h (usJ h n J' q' t' (-1)), 1, 6) := by
    unfold F_X11_house F_X11_house_b0
    rw [gd_d (k0 s), r0_2 s, ob_s, r0_1 s, ob_s, x_count s, ob2_s, gd_d (k36 s).1, wI_k, gd_d (k0 s), wI_R, r0_2 s, ob_s, r0_0 s, ob_s, r0_1 s, ob_s, e, ob2_s, wI_k, gd_d (k36 s).1, cT_k, gd_d (k0 s), cT_R, r0_0 s, ob_s, cT_k, gd_d (k1 s), if_neg (by decide), usJ_s, wI_R, r0_1 s, ob_s, wI_k, gd_d (k3 s), wI_I, usJ_o (by decide), e14, if_neg (by decide)]
  unfold F_L_house
  rw [gd_d (k0 s), x, ob4_s, sm_r, if_neg (by decide), if_pos rfl]
theorem hs_c1 (s : Sh h) {J' J'' : Nat → Nat → Int32} {q' x : Nat} {t' : Int32} (e : F_X7_readLines_k3 36 1 3 14 (wI h (cnJ h)) = some (1, cT h (zI h 2) n J' (zI h 1) q' t' (-1))) (e14 : J' 3 14 = nI x) (hx : x < 10) (et : F_X3_tellTo 36 3 (wI h (usJ h n J' q' t' (-1))) = some ((), wI h J'')) (e15 : J'' 3 14 = nI x) : F_L_house 0 72 h = some (0, setL (wI h (up2 J'' 3 14 (nI (x + 1)))) 72 0 (nI (x + 1)).toInt64, 0, 0) := by
  have y : F_X11_house 0 h = some (.inl (nI (x + 1)), wI h (up2 J'' 3 14 (nI (x + 1))), 0, 0) := by
    have lt : nI x < (10 : Int32) := nI_lt (b := 10) hx (by omega)
    unfold F_X11_house F_X11_house_b0
    rw [gd_d (k0 s), r0_2 s, ob_s, r0_1 s, ob_s, x_count s, ob2_s, gd_d (k36 s).1, wI_k, gd_d (k0 s), wI_R, r0_2 s, ob_s, r0_0 s, ob_s, r0_1 s, ob_s, e, ob2_s, wI_k, gd_d (k36 s).1, cT_k, gd_d (k0 s), cT_R, r0_0 s, ob_s, cT_k, gd_d (k1 s), if_neg (by decide), usJ_s, wI_R, r0_1 s, ob_s, wI_k, gd_d (k3 s), wI_I, usJ_o (by decide), e14, if_pos lt]
    simp only [wI_R, wI_k, wI_I, r0_1 s, r0_2 s, et, (k36 s).1, k0 s, k3 s, e15, nS_1, sI_w, up2_e, gd_t, ob_s, ob2_s, ob4_s, sm_l, sm_r, ac_s, decide_true, decide_false, eq_self, ne_eq, not_false_eq_true, not_true_eq_false, if_true, if_false, ite_true, ite_false, reduceIte, or_true, true_or, or_false, false_or, and_true, true_and, Bool.false_eq_true, reduceCtorEq]
  unfold F_L_house
  rw [gd_d (k0 s), y, ob4_s, sm_l]
  exact put_out2 (Sh_w s _) _ 0 0
/-- a text more -/
theorem Inv_x {f : Nat → Int32} (i : Inv f) (hx : nX f < 10) : Inv (va_up f 3 (nI (nX f + 1))) := by
  have e : ∀ k, k ≠ 3 → va_up f 3 (nI (nX f + 1)) k = f k := fun k hk => va_o _ _ hk
  have e3 : va_up f 3 (nI (nX f + 1)) 3 = nI (nX f + 1) := va_e _ _ _
  generalize va_up f 3 (nI (nX f + 1)) = f2 at e e3
  have eR : nR f2 = nR f := by unfold nR; rw [e 0 (by omega)]
  have eG : nG f2 = nG f := by unfold nG; rw [e 1 (by omega)]
  have eT : nT f2 = nT f := by unfold nT; rw [e 2 (by omega)]
  have eX : nX f2 = nX f + 1 := by unfold nX at e3 hx ⊢; rw [e3, ncl (by omega)]
  have eB : nB f2 = nB f := by unfold nB; rw [e 4 (by omega)]
  have eD : nD f2 = nD f := by unfold nD; rw [e 5 (by omega)]
  have eS : sR f2 = sR f := by unfold sR; rw [e 6 (by omega)]
  unfold Inv
  rw [eR, eG, eT, eX, eB, eD, eS, e 0 (by omega), e 1 (by omega), e 2 (by omega), e3, e 4 (by omega), e 5 (by omega), e 6 (by omega), e 7 (by omega), e 8 (by omega), e 9 (by omega)]
  refine ⟨i.1, i.2.1, i.2.2.1, ⟨rfl, by omega⟩, i.2.2.2.2.1, i.2.2.2.2.2.1, iSr i, i7 i, i8 i, i9 i, fun r hr => ?_, fun g hg => ?_, fun t ht => ?_, fun b hb => ?_⟩
  · rw [e _ (by omega), e _ (by omega), e _ (by omega), e _ (by omega)]
    exact irm i r hr
  · have es : sit f2 g = sit f g := by unfold sit; rw [e _ (by omega)]
    rw [es, e _ (by omega), e _ (by omega)]
    exact igs i g hg
  · have es : tin f2 t = tin f t := by unfold tin; rw [e _ (by omega)]
    rw [es, e _ (by omega), e _ (by omega), e _ (by omega)]
    exact itr i t ht
  · rw [e _ (by omega), e _ (by omega), e _ (by omega)]
    exact ibk i b hb
theorem fold_3 {R f : Nat → Int32} : ∀ m, foldW R f m 3 = f 3
  | 0 => rfl
  | m + 1 => by
    show tellW (foldW R f m) _ _ _ _ 3 = _
    rw [tell_w _ (by omega) (by omega), fold_3 m]
end HCLS
