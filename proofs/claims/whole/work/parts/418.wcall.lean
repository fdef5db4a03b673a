/-! THE CALL wishes: both sides -/
section WCALL
variable {h hM : Hp} {n : Nat} {K K' : Nat → Nat → Int32} {G' : Nat → Int32} {p' f g' : Nat}
theorem r0_3 (s : Sh h) : zR h 0 3 = some 38 := by unfold Sh at s; simp only [s]
def zsJ (h : Hp) : Nat → Nat → Int32 := up2 (zI h) 38 3 0
theorem ws_txt (s : Sh h) (hn : n ≤ 400) (e11 : zI h 1 1 = nI n) {K : Nat → Nat → Int32} {G : Nat → Int32} (hK63 : ∀ k, k < 400 → K 63 k = zI h 2 k) (hG : G 6 = nI n) :
    (∃ f q' J' t' K' G' p', F_X7_readLines_k9 38 1 3 8 (wI h (zsJ h)) = some (0, cT h (zI h 2) n J' (zI h 1) q' t' (nI f)) ∧ (∀ hM, Sh hM → F_X12_readAll 59 1 (rfS hM K G) = some (-1, rfT hM K' G' p' f)) ∧ WF (zI h) K (gB G) J' K' G') ∨
    (∃ i' q' J' t' K' G' p' g', F_X7_readLines_k9 38 1 3 8 (wI h (zsJ h)) = some (1, cT h (zI h 2) n J' (zI h 1) q' t' (-1)) ∧ (∀ hM, Sh hM → F_X12_readAll 59 1 (rfS hM K G) = some (nI i', rfT hM K' G' p' g')) ∧ i' ≤ 8 ∧ ∃ x, RW (zI h 2) n (zI h 1) (zI h) K (gB G) i' x J' K' G') := by
  have s8 : Sh (wI h (zsJ h)) := Sh_w s _
  have jf : ∀ a, a ≠ 38 → zsJ h a = zI h a := fun a ha => up2_a _ _ _ _ _ ha
  have j1 : zsJ h 1 = zI h 1 := jf 1 (by decide)
  have j2 : zsJ h 2 = zI h 2 := jf 2 (by decide)
  have tc : TC (zI h 2) n (zsJ h) (zI h 1) := ⟨hn, e11, fun _ _ => by rw [j2]⟩
  have tm : TM (zI h 2) n K (gB G) := ⟨hn, by unfold gB; rw [va_o _ _ (by decide), va_o _ _ (by decide), va_e]; exact hG, hK63⟩
  have y3 : up2 (zsJ h) 38 0 0 38 3 = 0 := by
    rw [up2_k _ _ _ _ _ (by decide)]
    unfold zsJ
    rw [up2_e]
  have rel : RW (zI h 2) n (zI h 1) (zI h) K (gB G) 0 0 (up2 (zsJ h) 38 0 0) K (gB G) := ⟨TC_up tc (by decide), tm, ⟨fun a h1 _ => by rw [up2_a _ _ _ _ _ h1, jf a h1], fun _ _ => rfl, fun _ _ => rfl, fun _ _ _ => rfl⟩, 0, y3, va_e _ _ _, by omega, by omega, WR_0 (up2_e _ _ _ _) y3 (va_e _ _ _)⟩
  have key := text_joint2 (b := zI h 2) (n := n) (F := zI h 1) (h := wI h (zsJ h)) s8 (J := zsJ h) (K := K) (G := G) (v0 := 38) (kc := 9) (most := 8) tc hG hK63 (by decide) (by decide) (k38 s).1 (by decide) (wish_line s8 (J0 := zI h) (K0 := K) (G0 := gB G)) sort_wish (fun i x J K G r => ⟨r.1, r.2.1, r.2.2.1⟩) (fun i x y J K G r hxy => RW_m i x y r hxy) rel
  have es : cS (wI h (zsJ h)) (zsJ h) (zI h 1) = wI h (zsJ h) := by
    have := cS_self (h := wI h (zsJ h))
    rw [wI_I, j1] at this
    exact this
  rw [es] at key
  simp only [cT_ww] at key
  exact key
/-- the class -/
def cwJ (J : Nat → Nat → Int32) (a : Nat) : Nat → Nat → Int32 := va_up (up2 (up2 J a 0 (J 38 0)) a 3 (up2 J a 0 (J 38 0) 38 3)) (a + 1) (va_cpy (up2 (up2 J a 0 (J 38 0)) a 3 (up2 J a 0 (J 38 0) 38 3) (38 + 1)) (up2 (up2 J a 0 (J 38 0)) a 3 (up2 J a 0 (J 38 0) 38 3) (a + 1)) 0 0 400)
theorem cwJ_o {J : Nat → Nat → Int32} {a x : Nat} (h1 : x ≠ a) (h2 : x ≠ a + 1) : cwJ J a x = J x := by
  unfold cwJ
  rw [va_n _ _ _ _ h2, up2_a _ _ _ _ _ h1, up2_a _ _ _ _ _ h1]
theorem cwJ_0 {J : Nat → Nat → Int32} {a : Nat} : cwJ J a a 0 = J 38 0 := by
  unfold cwJ
  rw [va_n _ _ _ _ (by omega), up2_k _ _ _ _ _ (by decide), up2_e]
theorem cwJ_3 {J : Nat → Nat → Int32} {a : Nat} (ha : a < 36) : cwJ J a a 3 = J 38 3 := by
  unfold cwJ
  rw [va_n _ _ _ _ (by omega), up2_e, up2_a _ _ _ _ _ (by omega)]
theorem cwJ_c {J : Nat → Nat → Int32} {a k : Nat} (ha : a < 36) (hk : k < 400) : cwJ J a (a + 1) k = J 39 k := by
  unfold cwJ
  rw [va_e, pk_cpy_in (by omega) (by omega), show 0 + (k - 0) = k by omega, up2_a _ _ _ _ _ (by omega), up2_a _ _ _ _ _ (by omega)]
variable {v : Int32}
theorem ws_head (s : Sh h) (i : Inv (zI h 60)) (c : HR (zI h) 3 (zI h 60)) (iv : isIn v (nG (zI h 60)) = true) {r : Int32} {hx : Hp} (e : F_X7_readLines_k9 38 1 3 8 (wI h (zsJ h)) = some (r, hx)) : F_X11_wishes 0 v h = (gd (decide (kd hx 0 = 10)) <| ob (zR hx 0 0) fun q21 => gd (decide (kd hx q21 = 6)) <| (if r = 0 then some (.inr 0, setI hx q21 1 (0 : Int32), 1, 6) else ob (zR (setI hx q21 1 (0 : Int32)) 0 1) fun q24 => gd (decide (kd (setI hx q21 1 (0 : Int32)) q24 = 2)) <| ob (zR (setI hx q21 1 (0 : Int32)) q24 8) fun q27 => gd (decide (kd (setI hx q21 1 (0 : Int32)) q27 = 15)) <| gd (ix v (zl (setI hx q21 1 (0 : Int32)) q27)) <| ob (zR (setI hx q21 1 (0 : Int32)) q27 (v).toNatClampNeg) fun q31 => ob (zR (setI hx q21 1 (0 : Int32)) 0 3) fun q33 => ob2 (F_X10_copyFrom q31 q33 (setI hx q21 1 (0 : Int32))) fun _ h37 => gd (decide (kd (setI hx q21 1 (0 : Int32)) q31 = 9)) <| gd (decide (kd h37 0 = 10)) <| ob (zR h37 0 3) fun q40 => gd (decide (kd h37 q40 = 9)) <| some (.inl (zI h37 q40 0), h37, 0, 0))) := by
  have es : setI h 38 3 0 = wI h (zsJ h) := rfl
  unfold F_X11_wishes F_X11_wishes_b0
  rw [gd_d (k0 s), r0_1 s, ob_s, x_hasGuest s i c, ob_s, gd_d (k3 s), iv, b2_t, if_neg (by decide), r0_3 s, ob_s, gd_d (k38 s).1, es, wI_R, r0_3 s, ob_s, r0_0 s, ob_s, r0_1 s, ob_s, e, ob2_s, wI_k, gd_d (k38 s).1]
theorem ws_c0 (s : Sh h) (i : Inv (zI h 60)) (c : HR (zI h) 3 (zI h 60)) (iv : isIn v (nG (zI h 60)) = true) {J' : Nat → Nat → Int32} {q' : Nat} {t' : Int32} (e : F_X7_readLines_k9 38 1 3 8 (wI h (zsJ h)) = some (0, cT h (zI h 2) n J' (zI h 1) q' t' (nI f))) : F_L_wishes 0 v 72 h = some (2, wI h (usJ h n J' q' t' (nI f)), 1, 6) := by
  have x : F_X11_wishes 0 v h = some (.inr 0, wI h (usJ h n J' q' t' (nI f)), 1, 6) := by
    rw [ws_head s i c iv e, cT_k, gd_d (k0 s), cT_R, r0_0 s, ob_s, cT_k, gd_d (k1 s), if_pos rfl, usJ_s]
  unfold F_L_wishes
  rw [gd_d (k0 s), x, ob4_s, sm_r, if_neg (by decide), if_pos rfl]
theorem ws_cn (s : Sh h) (i : Inv (zI h 60)) (c : HR (zI h) 3 (zI h 60)) (iv : isIn v (nG (zI h 60)) = false) : F_L_wishes 0 v 72 h = some (1, wI h (up2 (zI h) 1 1 0), 1, 6) := by
  have x : F_X11_wishes 0 v h = some (.inr 2, wI h (up2 (zI h) 1 1 0), 1, 6) := by
    unfold F_X11_wishes F_X11_wishes_b0
    rw [gd_d (k0 s), r0_1 s, ob_s, x_hasGuest s i c, ob_s, gd_d (k3 s), iv, b2_f, if_pos rfl, r0_0 s, ob_s, gd_d (k1 s)]
    rfl
  unfold F_L_wishes
  rw [gd_d (k0 s), x, ob4_s, sm_r, if_pos rfl]
theorem ws_c1 (s : Sh h) (i : Inv (zI h 60)) (c : HR (zI h) 3 (zI h 60)) {gq i' : Nat} (hg : gq < nG (zI h 60)) {J' : Nat → Nat → Int32} {q' : Nat} {t' : Int32} (e : F_X7_readLines_k9 38 1 3 8 (wI h (zsJ h)) = some (1, cT h (zI h 2) n J' (zI h 1) q' t' (-1))) (e0 : J' 38 0 = nI i') : F_L_wishes 0 (nI gq) 72 h = some (0, setL (wI h (cwJ (usJ h n J' q' t' (-1)) (21 + 3 * gq))) 72 0 (nI i').toInt64, 0, 0) := by
  have g5 := iG5 i
  obtain ⟨w1, w2⟩ := HS_W (HS_3 s) (show gq < 5 by omega)
  have w1 : zR h 10 gq = some (21 + 3 * gq) := w1
  have w2 : WSh h (21 + 3 * gq) := w2
  have w3 : WSh h 38 := k38 s
  obtain ⟨-, k10, l10, -, -, -⟩ := HS_k (HS_3 s)
  have k10 : kd h 10 = 15 := k10
  have l10 : zl h 10 = 5 := l10
  have cp : F_X10_copyFrom (21 + 3 * gq) 38 (wI h (usJ h n J' q' t' (-1))) = some ((), wI h (cwJ (usJ h n J' q' t' (-1)) (21 + 3 * gq))) := x_copyW w2 w3 _
  have z0 : cwJ (usJ h n J' q' t' (-1)) (21 + 3 * gq) 38 0 = nI i' := by rw [cwJ_o (by omega) (by omega), usJ_o (by decide), e0]
  have x : F_X11_wishes 0 (nI gq) h = some (.inl (nI i'), wI h (cwJ (usJ h n J' q' t' (-1)) (21 + 3 * gq)), 0, 0) := by
    rw [ws_head s i c (isIn_nI hg (by omega)) e, cT_k, gd_d (k0 s), cT_R, r0_0 s, ob_s, cT_k, gd_d (k1 s), if_neg (by decide), usJ_s]
    simp only [wI_R, wI_k, wI_l, wI_I, r0_1 s, k3 s, r3_8 s, k10, l10, ix_t (show gq < 5 by omega) (show 5 < 2147483648 by omega), ncl (show gq < 2147483648 by omega), w1, r0_3 s, cp, w2.1, k0 s, w3.1, z0, gd_t, ob_s, ob2_s, ob4_s, sm_l, sm_r, ac_s, decide_true, decide_false, eq_self, ne_eq, not_false_eq_true, not_true_eq_false, if_true, if_false, ite_true, ite_false, reduceIte, or_true, true_or, or_false, false_or, and_true, true_and, Bool.false_eq_true, reduceCtorEq]
  unfold F_L_wishes
  rw [gd_d (k0 s), x, ob4_s, sm_l]
  exact put_out2 (Sh_w s _) _ 0 0
/-- the reference -/
theorem wr_n (s : Sh hM) (i : Inv (K 60)) (iv : isIn v (nG (K 60)) = false) : F_X12_wishes 59 v (wI hM K) = some (0, wI hM (up2 (up2 (up2 K 59 0 0) 59 0 1) 59 6 0)) := by
  have s1 : Sh (wI hM (up2 K 59 0 0)) := Sh_w s _
  have e60 : zI (wI hM (up2 K 59 0 0)) 60 = K 60 := by rw [wI_I, up2_a _ _ _ _ _ (by decide)]
  have ng : F_X12_noGuest 59 v (wI hM (up2 K 59 0 0)) = some 1 := by
    rw [m_noGuest s1 (by rw [e60]; exact i), e60, iv]
    rfl
  have es : setI (wI hM K) 59 0 0 = wI hM (up2 K 59 0 0) := rfl
  unfold F_X12_wishes F_X12_wishes_b0
  rw [wI_k, gd_d (k59 s), es, ng, ob_s, m_thr1 s1, ob2_s, if_neg (by decide)]
  show gd (decide (kd hM 59 = 11)) _ = _
  rw [gd_d (k59 s)]
  rfl
theorem wr_head (s : Sh hM) (i : Inv (K 60)) (iv : isIn v (nG (K 60)) = true) {r : Int32} {hx : Hp} (e : F_X12_readAll 59 1 (rfS hM K (va_up (K 59) 0 0)) = some (r, hx)) : F_X12_wishes 59 v (wI hM K) = (if 0 ≤ r then F_X12_wishes_b44 59 v r 59 (-1 : Int32) hx else gd (decide (kd hx 59 = 11)) <| F_X12_wishes_b44 59 v r 59 (zI hx 59 9) hx) := by
  have s1 : Sh (rfS hM K (va_up (K 59) 0 0)) := Sh_w s _
  have e60 : zI (rfS hM K (va_up (K 59) 0 0)) 60 = K 60 := by
    show va_up K 59 (va_up (K 59) 0 0) 60 = K 60
    rw [va_n _ _ _ _ (by decide)]
  have ng : F_X12_noGuest 59 v (rfS hM K (va_up (K 59) 0 0)) = some 0 := by
    rw [m_noGuest s1 (by rw [e60]; exact i), e60, iv]
    rfl
  unfold F_X12_wishes F_X12_wishes_b0
  rw [wI_k, gd_d (k59 s), th0_m hM, ng, ob_s, m_thr0 s1, ob2_s, if_pos rfl, e, ob2_s, rfS_k, gd_d (k59 s)]
theorem wr_0 (s : Sh hM) (i : Inv (K 60)) (iv : isIn v (nG (K 60)) = true) (e : F_X12_readAll 59 1 (rfS hM K (va_up (K 59) 0 0)) = some (-1, rfT hM K' G' p' f)) : F_X12_wishes 59 v (wI hM K) = some (0, rfS hM K' (va_up (va_up (rF G' p' f) 11 (nI f)) 0 2)) := by
  rw [wr_head s i iv e, if_neg (by decide), m_k, gd_d (k59 s), m_r9]
  unfold F_X12_wishes_b44
  rw [m_k, gd_d (k59 s), if_neg (by decide)]
  unfold rfT
  rw [rfS_set]
  unfold F_X12_wishes_b57
  have s2 : Sh (rfS hM K' (va_up (rF G' p' f) 11 (nI f))) := s
  rw [m_thr1 s2, ob2_s, rfS_k, gd_d (k59 s), if_neg (by decide), rfS_set]
/-- the draft goes into the world -/
def wgK (K : Nat → Nat → Int32) (a j : Nat) : Nat → Nat → Int32 := va_up K 60 (fun k => if a ≤ k ∧ k < a + j then K 60 (4232 + (k - a)) else K 60 k)
theorem wgK_0 (K : Nat → Nat → Int32) (a : Nat) : wgK K a 0 = K := by
  funext c k
  unfold wgK
  by_cases e : c = 60
  · subst e
    rw [va_e, if_neg (by omega)]
  · rw [va_n _ _ _ _ e]
theorem wgK_o (K : Nat → Nat → Int32) (a j : Nat) {c : Nat} (hc : c ≠ 60) : wgK K a j c = K c := va_n _ _ _ _ hc
theorem wgK_60 (K : Nat → Nat → Int32) (a j k : Nat) : wgK K a j 60 k = if a ≤ k ∧ k < a + j then K 60 (4232 + (k - a)) else K 60 k := by
  unfold wgK
  rw [va_e]
theorem wgK_s (K : Nat → Nat → Int32) (a j : Nat) : up2 (wgK K a j) 60 (a + j) (K 60 (4232 + j)) = wgK K a (j + 1) := by
  funext c k
  by_cases e : c = 60
  · subst e
    by_cases e2 : k = a + j
    · subst e2
      rw [up2_e, wgK_60, if_pos (by omega), show a + j - a = j by omega]
    · rw [up2_k _ _ _ _ _ e2, wgK_60, wgK_60]
      by_cases x : a ≤ k ∧ k < a + j
      · rw [if_pos x, if_pos (by omega)]
      · rw [if_neg x, if_neg (by omega)]
  · rw [up2_a _ _ _ _ _ e, wgK_o _ _ _ e, wgK_o _ _ _ e]
theorem w_l77 (s : Sh hM) {G : Nat → Int32} {gq : Nat} (hg : gq < 5) (v2 : Int32) : iter (fun z : Int32 × Hp => F_X12_wishes_l77 59 (nI gq) v2 z.1 z.2) FU ((0 : Int32), rfS hM K G) = some (rfS hM (wgK K (147 + 817 * gq) 817) G) := by
  have y : (147 : Int32) + ((817 : Int32) * nI gq) = nI (147 + 817 * gq) := by rw [nl_147, nl_817, nmul, nadd]
  refine iter_at (fun j => (nI j, rfS hM (wgK K (147 + 817 * gq) j) G)) 817 _ (by rw [wgK_0]; rfl) (fun j hj => ?_) ?_ (FU_lt (by omega))
  · show F_X12_wishes_l77 59 (nI gq) v2 (nI j) (rfS hM (wgK K (147 + 817 * gq) j) G) = _
    unfold F_X12_wishes_l77
    rw [y, nadd, nl_4232, nadd, nl_817, if_neg (nI_ge hj (by omega)), rfS_k, gd_d (k59 s), rfS_R, r59_1 s, ob_s, ob_s, rfS_k, gd_d (k60 s), rfS_l, l60 s, ix_t (show 4232 + j < 5049 by omega) (by omega), gd_t, gd_d (k60 s), ix_t (show 147 + 817 * gq + j < 5049 by omega) (by omega), gd_t, ncl (by omega), ncl (by omega), rfS_a _ (by decide), wgK_60, if_neg (by omega), rfS_seta _ _ (by decide), wgK_s, nS_1]
  · show F_X12_wishes_l77 59 (nI gq) v2 (nI 817) _ = _
    unfold F_X12_wishes_l77
    rw [nl_817, if_pos (nI_le (Nat.le_refl _) (by omega))]
theorem wr_1 (s : Sh hM) (i : Inv (K 60)) {gq i' : Nat} (hg : gq < nG (K 60)) (hi : i' < 100) (e : F_X12_readAll 59 1 (rfS hM K (va_up (K 59) 0 0)) = some (nI i', rfT hM K' G' p' g')) : F_X12_wishes 59 (nI gq) (wI hM K) = some (nI i', rfS hM (wgK (up2 K' 60 4232 (nI i')) (147 + 817 * gq) 817) (va_up (rF G' p' g') 11 (-1))) := by
  have g5 := iG5 i
  rw [wr_head s i (isIn_nI hg (by omega)) e, if_pos (nI_pos' (by omega))]
  unfold F_X12_wishes_b44
  rw [m_k, gd_d (k59 s), if_pos (nI_pos' (by omega))]
  unfold rfT
  rw [rfS_set]
  unfold F_X12_wishes_b57
  have s2 : Sh (rfS hM K' (va_up (rF G' p' g') 11 (-1))) := s
  rw [m_thr0 s2, ob2_s, rfS_k, gd_d (k59 s), if_pos rfl, gd_d (k59 s), rfS_R, r59_1 s, ob_s, rfS_k, gd_d (k60 s), rfS_l, l60 s, show ix (4232 : Int32) 5049 = true from by decide, gd_t, show ((4232 : Int32)).toNatClampNeg = 4232 from rfl, rfS_seta _ _ (by decide), w_l77 s (by omega), ob_s]
end WCALL
