/-! THE CALL book, when the text is wrong; and what both share -/
section BOOKJ
variable {h : Hp} {b : Nat → Int32} {n : Nat} {F : Nat → Int32}
theorem r0_4 (s : Sh h) : zR h 0 4 = some 41 := by unfold Sh at s; simp only [s]
/-- the book's text, both sides -/
theorem bk_txt (s : Sh h) (i : Inv (zI h 60)) (c : HR (zI h) 3 (zI h 60)) (hn : n ≤ 400) (e11 : zI h 1 1 = nI n) {K : Nat → Nat → Int32} {G : Nat → Int32} (hK60 : K 60 = zI h 60) (hK63 : ∀ k, k < 400 → K 63 k = zI h 2 k) (hG : G 6 = nI n) :
    (∃ f q' J' t' K' G' p', F_X7_readLines_k0 41 1 3 20 h = some (0, cT h (zI h 2) n J' (zI h 1) q' t' (nI f)) ∧ (∀ hM, Sh hM → F_X12_readAll 59 2 (rfS hM K G) = some (-1, rfT hM K' G' p' f)) ∧ RBF (up2 (zI h) 41 0 0) K (gB G) J' K' G') ∨
    (∃ i' q' J' t' K' G' p' g', F_X7_readLines_k0 41 1 3 20 h = some (1, cT h (zI h 2) n J' (zI h 1) q' t' (-1)) ∧ (∀ hM, Sh hM → F_X12_readAll 59 2 (rfS hM K G) = some (nI i', rfT hM K' G' p' g')) ∧ i' ≤ 20 ∧ RB h (zI h 2) n (zI h 1) (up2 (zI h) 41 0 0) K (gB G) i' J' K' G') := by
  have tc : TC (zI h 2) n (zI h) (zI h 1) := ⟨hn, e11, fun _ _ => rfl⟩
  have tm : TM (zI h 2) n K (gB G) := ⟨hn, by unfold gB; rw [va_o _ _ (by decide), va_o _ _ (by decide), va_e]; exact hG, hK63⟩
  have eg : up2 (zI h) 41 0 0 3 5 = nI (nG (zI h 60)) := by
    rw [up2_a _ _ _ _ _ (by decide), c.1.2.1]
    exact iG i
  have er : up2 (zI h) 41 0 0 3 0 = nI (nR (zI h 60)) := by
    rw [up2_a _ _ _ _ _ (by decide), c.1.1]
    exact iR i
  have key := text_joint (b := zI h 2) (n := n) (F := zI h 1) s (J := zI h) (K := K) (G := G) (v0 := 41) (kc := 0) (most := 20) tc hG hK63 (by decide) (by decide) (k41 s).1 (by decide) (book_line s (K0 := K) (G0 := gB G) eg er (by rw [hK60]; exact iG i) (by rw [hK60]; exact iR i) (by rw [hK60]) (by rw [hK60]) (iG5 i) (iR8 i)) sort_book (fun i J K G r => RB_F r) ⟨TC_up tc (by decide), tm, up2_e _ _ _ _, rfl, fun _ _ => rfl, fun _ _ => rfl, fun j hj => absurd hj (by omega)⟩
  rw [cS_self] at key
  exact key
theorem bk_c0 (s : Sh h) {J' : Nat → Nat → Int32} {q' f : Nat} {t' : Int32} (e : F_X7_readLines_k0 41 1 3 20 h = some (0, cT h (zI h 2) n J' (zI h 1) q' t' (nI f))) : F_L_book 0 72 h = some (1, cS h J' (va_up (tF (zI h 2) n (zI h 1) q' t' (nI f)) 1 0), 1, 6) := by
  have x : F_X11_book 0 h = some (.inr 0, cS h J' (va_up (tF (zI h 2) n (zI h 1) q' t' (nI f)) 1 0), 1, 6) := by
    unfold F_X11_book F_X11_book_b0
    rw [gd_d (k0 s), r0_4 s, ob_s, r0_0 s, ob_s, r0_1 s, ob_s, e, ob2_s, gd_d (k41 s).1, cT_k, gd_d (k0 s), cT_R, r0_0 s, ob_s, cT_k, gd_d (k1 s), if_pos rfl]
    unfold cT
    rw [cS_set]
  unfold F_L_book
  rw [gd_d (k0 s), x, ob4_s, sm_r, if_pos rfl]
/-- from the class's heap to the reference's words -/
theorem th0_m (hM : Hp) {K : Nat → Nat → Int32} : setI (wI hM K) 59 0 0 = rfS hM K (va_up (K 59) 0 0) := by
  show wI hM (up2 K 59 0 0) = wI hM (va_up K 59 (va_up (K 59) 0 0))
  congr 1
theorem bk_r0 {hM : Hp} (s : Sh hM) {K K' : Nat → Nat → Int32} {G' : Nat → Int32} {p' f : Nat} (e : F_X12_readAll 59 2 (rfS hM K (va_up (K 59) 0 0)) = some (-1, rfT hM K' G' p' f)) : F_X12_book 59 (wI hM K) = some (0, rfS hM K' (va_up (va_up (rF G' p' f) 11 (nI f)) 0 1)) := by
  unfold F_X12_book F_X12_book_b0
  rw [wI_k, gd_d (k59 s), th0_m hM, e, ob2_s, if_neg (by decide), m_k, gd_d (k59 s), m_r9]
  unfold F_X12_book_b24
  rw [m_k, gd_d (k59 s), if_neg (by decide)]
  unfold rfT
  rw [rfS_set]
  unfold F_X12_book_b37
  have s2 : Sh (rfS hM K' (va_up (rF G' p' f) 11 (nI f))) := s
  rw [m_thr1 s2, ob2_s, rfS_k, gd_d (k59 s), if_neg (by decide), rfS_set]
theorem cT_inj {J1 J2 : Nat → Nat → Int32} {q1 q2 : Nat} {t1 t2 w1 w2 : Int32} (e : cT h b n J1 F q1 t1 w1 = cT h b n J2 F q2 t2 w2) : (∀ a, a ≠ 1 → J1 a = J2 a) ∧ w1 = w2 := by
  constructor
  · intro a ha
    funext k
    have := congrArg (fun x => zI x a k) e
    simp only [cT_a k ha] at this
    exact this
  · have := congrArg (fun x => zI x 1 6) e
    have e1 : zI (cT h b n J1 F q1 t1 w1) 1 6 = w1 := cS_1 6
    have e2 : zI (cT h b n J2 F q2 t2 w2) 1 6 = w2 := cS_1 6
    rw [← e1, ← e2]
    exact this
theorem bk_fail (g : GS h) (hn : n ≤ 400) (e11 : zI h 1 1 = nI n) {J' : Nat → Nat → Int32} {q' f : Nat} {t' : Int32} (e : F_X7_readLines_k0 41 1 3 20 h = some (0, cT h (zI h 2) n J' (zI h 1) q' t' (nI f))) (fr : ∀ a, (a < 41 ∨ 44 < a) → J' a = up2 (zI h) 41 0 0 a) : JB h (F_L_book 0 72) (F_X12_book 59) := by
  have g0 := g
  obtain ⟨s, i, c, t, -⟩ := g
  have fr2 : ∀ a, (a < 41 ∨ 44 < a) → J' a = zI h a := fun a ha => by rw [fr a ha, up2_a _ _ _ _ _ (by omega)]
  have kf : ∀ a, a ≠ 1 → (a < 41 ∨ 44 < a) → va_up J' 1 (va_up (tF (zI h 2) n (zI h 1) q' t' (nI f)) 1 0) a = zI h a := fun a h1 ha => by
    rw [va_n _ _ _ _ h1]
    exact fr2 a ha
  have k1' : va_up J' 1 (va_up (tF (zI h 2) n (zI h 1) q' t' (nI f)) 1 0) 1 = va_up (tF (zI h 2) n (zI h 1) q' t' (nI f)) 1 0 := va_e _ _ _
  have cl := bk_c0 s e
  generalize hK : va_up J' 1 (va_up (tF (zI h 2) n (zI h 1) q' t' (nI f)) 1 0) = K at kf k1'
  have cl2 : F_L_book 0 72 h = some (1, wI h K, 1, 6) := by rw [← hK]; exact cl
  have hG : va_up (K 59) 0 0 6 = nI n := by
    rw [va_o _ _ (by decide), kf 59 (by decide) (by omega), ← t.2.1]
    exact e11
  rcases bk_txt s i c hn e11 (K := K) (G := va_up (K 59) 0 0) (kf 60 (by decide) (by omega)) (fun k hk => by rw [kf 63 (by decide) (by omega)]; exact (t.1 k hk).symm) hG with ⟨f2, q2, J2, t2, K2, G2, p2, a1, a2, a3⟩ | ⟨i2, q2, J2, t2, K2, G2, p2, g2, a1, a2, -, -⟩
  · rw [e] at a1
    have hq : nI f = nI f2 := (cT_inj (congrArg Prod.snd (Option.some.inj a1))).2
    obtain ⟨b1, b2, b3⟩ := a3
    have rf := bk_r0 s (a2 h s)
    refine ⟨1, wI h K, 1, 6, 0, _, cl2, rf, k59 s, ?_, fun q => absurd q (by decide), ?_, ?_, ?_⟩
    · rw [rfS_1, va_e]
    · have n59 : ∀ a, a ≠ 1 → (a < 41 ∨ 44 < a) → a ≠ 59 → a ≠ 65 → va_up K2 59 (va_up (va_up (rF G2 p2 f2) 11 (nI f2)) 0 1) a = zI h a := fun a h1 h2 h3 h4 => by
        rw [va_n _ _ _ _ h3, b3 a h4, kf a h1 h2]
      have n60 : va_up K2 59 (va_up (va_up (rF G2 p2 f2) 11 (nI f2)) 0 1) 60 = zI h 60 := n59 60 (by decide) (by omega) (by decide) (by decide)
      refine GS_c g0 ?_ ?_ ?_ ?_
      · rw [n60]
        exact i
      · rw [n60]
        exact HR_congr (f := zI h 60) (fun a ha => n59 _ (by omega) (by omega) (by omega) (by omega)) (fun g hg => ⟨n59 _ (by omega) (by omega) (by omega) (by omega), n59 _ (by omega) (by omega) (by omega) (by omega)⟩) (fun _ _ => rfl) i c
      · have x1 : va_up K2 59 (va_up (va_up (rF G2 p2 f2) 11 (nI f2)) 0 1) 1 = va_up (tF (zI h 2) n (zI h 1) q' t' (nI f)) 1 0 := by rw [va_n _ _ _ _ (by decide), b3 1 (by decide), k1']
        have x59 : va_up K2 59 (va_up (va_up (rF G2 p2 f2) 11 (nI f2)) 0 1) 59 = va_up (va_up (rF G2 p2 f2) 11 (nI f2)) 0 1 := va_e _ _ _
        unfold TP
        rw [n59 2 (by decide) (by omega) (by decide) (by decide), n59 63 (by decide) (by omega) (by decide) (by decide), x1, x59]
        refine ⟨t.1, ?_, ?_, 0, by omega, ?_⟩
        · rw [va_e, va_o _ _ (by decide), va_o _ _ (by decide), rF_o (by decide) (by decide), b1]
          rfl
        · rw [va_o _ _ (by decide), tF_6, va_o _ _ (by decide), va_e]
          exact hq
        · rw [va_e]
          rfl
      · intro a k ha _ _
        rcases ha with rfl | ha | ⟨rfl, rfl⟩
        · rw [n59 61 (by decide) (by omega) (by decide) (by decide)]
        · rw [n59 a (by omega) (by omega) (by omega) (by omega)]
        · rw [va_e, va_o _ _ (by decide), va_o _ _ (by decide), rF_o (by decide) (by decide), b1]
          show gB (va_up (K 59) 0 0) 4 = _
          unfold gB
          rw [va_o _ _ (by decide), va_o _ _ (by decide), va_o _ _ (by decide), va_o _ _ (by decide), kf 59 (by decide) (by omega)]
    · show 1 + potC h ≤ potC h + 1
      omega
    · show 6 + potS h ≤ potS h + 6
      omega
  · rw [e] at a1
    have x : (0 : Int32) = 1 := congrArg Prod.fst (Option.some.inj a1)
    exact absurd x (by decide)
end BOOKJ
