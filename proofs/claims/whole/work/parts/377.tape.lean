/-! TEXTS: the class's tape -/
section TAPE
variable {h : Hp} {b : Nat → Int32} {n : Nat} {J : Nat → Nat → Int32} {F : Nat → Int32}
theorem it_to {G : Hp → Option (Hp ⊕ Hp)} {St : Nat → Hp} (f : Int32 → Bool) {p : Nat} (h1 : ∀ k, k < n → f (b k) = true → G (St k) = some (.inl (St (k + 1)))) (h2 : ∀ k, k ≤ n → (k < n → f (b k) = false) → G (St k) = some (.inr (St k))) (hp : p ≤ n) (hn : n ≤ 400) : iter (fun z : Hp => G z) FU (St p) = some (St (tTo f b n p)) := by
  have g1 := tTo_ge f b n p
  have g2 := tTo_le f b hp
  refine iter_at (fun j => St (p + j)) (tTo f b n p - p) _ rfl (fun j hj => ?_) ?_ (FU_lt (by omega))
  · exact h1 _ (by omega) (tTo_in f b n p _ (by omega) (by omega))
  · show G (St (p + (tTo f b n p - p))) = _
    rw [show p + (tTo f b n p - p) = tTo f b n p by omega]
    exact h2 _ g2 (fun q => tTo_out f b hp q)
def cS (h : Hp) (J : Nat → Nat → Int32) (F : Nat → Int32) : Hp := wI h (va_up J 1 F)
theorem cS_k (a : Nat) : kd (cS h J F) a = kd h a := rfl
theorem cS_l (a : Nat) : zl (cS h J F) a = zl h a := rfl
theorem cS_R (a k : Nat) : zR (cS h J F) a k = zR h a k := rfl
theorem cS_1 (k : Nat) : zI (cS h J F) 1 k = F k := by
  show va_up J 1 F 1 k = F k
  rw [va_e]
theorem cS_a {a : Nat} (k : Nat) (ha : a ≠ 1) : zI (cS h J F) a k = J a k := by
  show va_up J 1 F a k = J a k
  rw [va_n _ _ _ _ ha]
theorem cS_2 (k : Nat) : zI (cS h J F) 2 k = J 2 k := cS_a k (by decide)
theorem cS_set (k : Nat) (v : Int32) : setI (cS h J F) 1 k v = cS h J (va_up F k v) := by
  show wI h (up2 (va_up J 1 F) 1 k v) = _
  rw [up2_va]
  rfl
theorem cS_seta {a : Nat} (k : Nat) (v : Int32) (ha : a ≠ 1) : setI (cS h J F) a k v = cS h (up2 J a k v) F := by
  show wI h (up2 (va_up J 1 F) a k v) = wI h (va_up (up2 J a k v) 1 F)
  congr 1
  funext c j
  by_cases e : c = a
  · subst e
    rw [va_n _ _ _ _ ha]
    by_cases e2 : j = k
    · subst e2
      rw [up2_e, up2_e]
    · rw [up2_k _ _ _ _ _ e2, up2_k _ _ _ _ _ e2, va_n _ _ _ _ ha]
  · rw [up2_a _ _ _ _ _ e]
    by_cases e2 : c = 1
    · subst e2
      rw [va_e, va_e]
    · rw [va_n _ _ _ _ e2, va_n _ _ _ _ e2, up2_a _ _ _ _ _ e]
/-- the tape as it is at the thing q -/
def tF (b : Nat → Int32) (n : Nat) (F : Nat → Int32) (q : Nat) (t w : Int32) : Nat → Int32 := fun k => if k = 2 then nI (tK b n q) else if k = 3 then nI q else if k = 4 then nI (tE b n q) else if k = 5 then t else if k = 6 then w else F k
theorem va_2 (F : Nat → Int32) (k j : Nat) (v : Int32) : va_up F k v j = if j = k then v else F j := by
  by_cases e : j = k
  · subst e
    rw [va_e, if_pos rfl]
  · rw [va_n _ _ _ _ e, if_neg e]
/-- the text stands on the class's tape -/
def TC (b : Nat → Int32) (n : Nat) (J : Nat → Nat → Int32) (F : Nat → Int32) : Prop := n ≤ 400 ∧ F 1 = nI n ∧ ∀ k, k < 400 → J 2 k = b k
theorem bl_t {v : Int32} : isBl v = true ↔ v = 32 := decide_eq_true_iff
theorem le_t {v : Int32} : isLe v = true ↔ ¬ v < 97 ∧ ¬ 122 < v := by
  unfold isLe
  rw [decide_eq_true_iff, Int32.not_lt, Int32.not_lt]
theorem di_t {v : Int32} : isDi v = true ↔ ¬ v < 48 ∧ ¬ 57 < v := by
  unfold isDi
  rw [decide_eq_true_iff, Int32.not_lt, Int32.not_lt]
theorem va_o (F : Nat → Int32) {k j : Nat} (v : Int32) (e : j ≠ k) : va_up F k v j = F j := va_n _ _ _ _ e
theorem va_s (F : Nat → Int32) (k : Nat) (v w : Int32) : va_up (va_up F k v) k w = va_up F k w := by
  funext j
  rw [va_2, va_2, va_2]
  by_cases e : j = k
  · rw [if_pos e, if_pos e]
  · rw [if_neg e, if_neg e, if_neg e]
theorem c_l8 (s : Sh h) (c : TC b n J F) {p : Nat} (hp : p ≤ n) : iter (fun z : Hp => F_X6_lookAtNext_l8 1 z) FU (cS h J (va_up F 3 (nI p))) = some (cS h J (va_up F 3 (nI (tS b n p)))) := by
  obtain ⟨hn, e1, e2⟩ := c
  have r1 : ∀ k, va_up F 3 (nI k) 1 = nI n := fun k => by rw [va_o _ _ (by decide), e1]
  refine it_to (St := fun k => cS h J (va_up F 3 (nI k))) isBl (fun k hk hb => ?_) (fun k hk hb => ?_) hp hn
  · show F_X6_lookAtNext_l8 1 (cS h J (va_up F 3 (nI k))) = _
    unfold F_X6_lookAtNext_l8
    rw [cS_k, gd_d (k1 s), cS_1, cS_1, r1, va_e, if_neg (nI_ge hk (by omega)), cS_R, r1_0 s, ob_s, cS_k, gd_d (k2 s), cS_l, l2 s, ix_t (by omega) (by omega), gd_t, ncl (by omega), cS_2, e2 _ (by omega), if_pos (bl_t.mp hb), cS_set, va_s, nl_1, nadd]
  · show F_X6_lookAtNext_l8 1 (cS h J (va_up F 3 (nI k))) = _
    unfold F_X6_lookAtNext_l8
    rw [cS_k, gd_d (k1 s), cS_1, cS_1, r1, va_e]
    by_cases q : k < n
    · rw [if_neg (nI_ge q (by omega)), cS_R, r1_0 s, ob_s, cS_k, gd_d (k2 s), cS_l, l2 s, ix_t (by omega) (by omega), gd_t, ncl (by omega), cS_2, e2 _ (by omega), if_neg (fun e => by have := hb q; rw [bl_t.mpr e] at this; cases this)]
    · rw [if_pos (nI_le (by omega) (by omega))]
theorem c_l54 (s : Sh h) (c : TC b n J F) {p : Nat} (hp : p ≤ n) : iter (fun z : Hp => F_X6_lookAtNext_l54 1 z) FU (cS h J (va_up F 4 (nI p))) = some (cS h J (va_up F 4 (nI (tW b n p)))) := by
  obtain ⟨hn, e1, e2⟩ := c
  have r1 : ∀ k, va_up F 4 (nI k) 1 = nI n := fun k => by rw [va_o _ _ (by decide), e1]
  refine it_to (St := fun k => cS h J (va_up F 4 (nI k))) isLe (fun k hk hb => ?_) (fun k hk hb => ?_) hp hn
  · show F_X6_lookAtNext_l54 1 (cS h J (va_up F 4 (nI k))) = _
    have hb := le_t.mp hb
    unfold F_X6_lookAtNext_l54
    simp only [cS_k, k1 s, cS_1, r1, va_e, if_neg (nI_ge hk (show n < 2147483648 by omega)), cS_R, r1_0 s, k2 s, cS_l, l2 s, ix_t (show k < 400 by omega) (show 400 < 2147483648 by omega), ncl (show k < 2147483648 by omega), cS_2, e2 _ (show k < 400 by omega), if_neg hb.1, if_neg hb.2, cS_set, va_s, nl_1, nadd, gd_t, ob_s, ob2_s, ob4_s, sm_l, sm_r, ac_s, decide_true, decide_false, eq_self, ne_eq, not_false_eq_true, not_true_eq_false, if_true, if_false, ite_true, ite_false, reduceIte, or_true, true_or, or_false, false_or, and_true, true_and, Bool.false_eq_true, reduceCtorEq]
  · show F_X6_lookAtNext_l54 1 (cS h J (va_up F 4 (nI k))) = _
    unfold F_X6_lookAtNext_l54
    rw [cS_k, gd_d (k1 s), cS_1, cS_1, r1, va_e]
    by_cases q : k < n
    · have hb := hb q
      rw [if_neg (nI_ge q (by omega))]
      by_cases q1 : b k < 97
      · simp only [cS_R, r1_0 s, cS_k, k2 s, cS_l, l2 s, ix_t (show k < 400 by omega) (show 400 < 2147483648 by omega), ncl (show k < 2147483648 by omega), cS_2, e2 _ (show k < 400 by omega), if_pos q1, gd_t, ob_s, ob2_s, ob4_s, sm_l, sm_r, ac_s, decide_true, decide_false, eq_self, ne_eq, not_false_eq_true, not_true_eq_false, if_true, if_false, ite_true, ite_false, reduceIte, or_true, true_or, or_false, false_or, and_true, true_and, Bool.false_eq_true, reduceCtorEq]
      · have q2 : 122 < b k := by
          by_cases q2 : 122 < b k
          · exact q2
          · rw [le_t.mpr ⟨q1, q2⟩] at hb
            cases hb
        simp only [cS_R, r1_0 s, cS_k, k2 s, cS_l, l2 s, ix_t (show k < 400 by omega) (show 400 < 2147483648 by omega), ncl (show k < 2147483648 by omega), cS_2, e2 _ (show k < 400 by omega), if_neg q1, if_pos q2, gd_t, ob_s, ob2_s, ob4_s, sm_l, sm_r, ac_s, decide_true, decide_false, eq_self, ne_eq, not_false_eq_true, not_true_eq_false, if_true, if_false, ite_true, ite_false, reduceIte, or_true, true_or, or_false, false_or, and_true, true_and, Bool.false_eq_true, reduceCtorEq]
    · rw [if_pos (nI_le (by omega) (by omega))]
theorem c_l123 (s : Sh h) (c : TC b n J F) {p : Nat} (hp : p ≤ n) : iter (fun z : Hp => F_X6_lookAtNext_l123 1 z) FU (cS h J (va_up F 4 (nI p))) = some (cS h J (va_up F 4 (nI (tD b n p)))) := by
  obtain ⟨hn, e1, e2⟩ := c
  have r1 : ∀ k, va_up F 4 (nI k) 1 = nI n := fun k => by rw [va_o _ _ (by decide), e1]
  refine it_to (St := fun k => cS h J (va_up F 4 (nI k))) isDi (fun k hk hb => ?_) (fun k hk hb => ?_) hp hn
  · show F_X6_lookAtNext_l123 1 (cS h J (va_up F 4 (nI k))) = _
    have hb := di_t.mp hb
    unfold F_X6_lookAtNext_l123
    simp only [cS_k, k1 s, cS_1, r1, va_e, if_neg (nI_ge hk (show n < 2147483648 by omega)), cS_R, r1_0 s, k2 s, cS_l, l2 s, ix_t (show k < 400 by omega) (show 400 < 2147483648 by omega), ncl (show k < 2147483648 by omega), cS_2, e2 _ (show k < 400 by omega), if_neg hb.1, if_neg hb.2, cS_set, va_s, nl_1, nadd, gd_t, ob_s, ob2_s, ob4_s, sm_l, sm_r, ac_s, decide_true, decide_false, eq_self, ne_eq, not_false_eq_true, not_true_eq_false, if_true, if_false, ite_true, ite_false, reduceIte, or_true, true_or, or_false, false_or, and_true, true_and, Bool.false_eq_true, reduceCtorEq]
  · show F_X6_lookAtNext_l123 1 (cS h J (va_up F 4 (nI k))) = _
    unfold F_X6_lookAtNext_l123
    rw [cS_k, gd_d (k1 s), cS_1, cS_1, r1, va_e]
    by_cases q : k < n
    · have hb := hb q
      rw [if_neg (nI_ge q (by omega))]
      by_cases q1 : b k < 48
      · simp only [cS_R, r1_0 s, cS_k, k2 s, cS_l, l2 s, ix_t (show k < 400 by omega) (show 400 < 2147483648 by omega), ncl (show k < 2147483648 by omega), cS_2, e2 _ (show k < 400 by omega), if_pos q1, gd_t, ob_s, ob2_s, ob4_s, sm_l, sm_r, ac_s, decide_true, decide_false, eq_self, ne_eq, not_false_eq_true, not_true_eq_false, if_true, if_false, ite_true, ite_false, reduceIte, or_true, true_or, or_false, false_or, and_true, true_and, Bool.false_eq_true, reduceCtorEq]
      · have q2 : 57 < b k := by
          by_cases q2 : 57 < b k
          · exact q2
          · rw [di_t.mpr ⟨q1, q2⟩] at hb
            cases hb
        simp only [cS_R, r1_0 s, cS_k, k2 s, cS_l, l2 s, ix_t (show k < 400 by omega) (show 400 < 2147483648 by omega), ncl (show k < 2147483648 by omega), cS_2, e2 _ (show k < 400 by omega), if_neg q1, if_pos q2, gd_t, ob_s, ob2_s, ob4_s, sm_l, sm_r, ac_s, decide_true, decide_false, eq_self, ne_eq, not_false_eq_true, not_true_eq_false, if_true, if_false, ite_true, ite_false, reduceIte, or_true, true_or, or_false, false_or, and_true, true_and, Bool.false_eq_true, reduceCtorEq]
    · rw [if_pos (nI_le (by omega) (by omega))]
theorem jmin_n {x y : Nat} (hx : x < 2147483648) (hy : y < 2147483648) : jmin (nI x) (nI y) = nI (min x y) := by
  unfold jmin
  by_cases q : y < x
  · rw [if_pos (nI_lt q hx), Nat.min_eq_right (by omega)]
  · rw [if_neg (nI_nlt (by omega) hy), Nat.min_eq_left (by omega)]
theorem c_next (s : Sh h) (c : TC b n J F) {p : Nat} (hp : p ≤ n) (e4 : F 4 = nI p) : F_X6_lookAtNext 1 (cS h J F) = some ((), cS h J (tF b n F (tS b n p) (F 5) (F 6))) := by
  have hn := c.1
  have e1 := c.2.1
  have hq : tS b n p ≤ n := tS_le hp
  have hw := tTo_le isLe b hq
  have hd := tTo_le isDi b hq
  have gw := tTo_ge isLe b n (tS b n p)
  have gd := tTo_ge isDi b n (tS b n p)
  have hw' : tW b n (tS b n p) ≤ n := hw
  have hd' : tD b n (tS b n p) ≤ n := hd
  have gw' : tS b n p ≤ tW b n (tS b n p) := gw
  have gd' : tS b n p ≤ tD b n (tS b n p) := gd
  unfold F_X6_lookAtNext F_X6_lookAtNext_b0
  rw [cS_k, gd_d (k1 s), cS_1, e4, cS_set, c_l8 s c hp, ob_s]
  unfold F_X6_lookAtNext_b46
  rw [cS_k, gd_d (k1 s), cS_1, va_e, cS_set]
  have c2 : TC b n J (va_up F 3 (nI (tS b n p))) := ⟨hn, by rw [va_o _ _ (by decide)]; exact e1, c.2.2⟩
  rw [c_l54 s c2 hq, ob_s]
  unfold F_X6_lookAtNext_b106
  rw [cS_k, gd_d (k1 s), cS_1, cS_1, va_e, va_o _ _ (by decide), va_e]
  by_cases q1 : tS b n p < tW b n (tS b n p)
  · rw [if_neg (nI_ge q1 (by omega)), cS_set]
    congr 3
    funext k
    unfold tF
    rw [tE_1 q1, tK_1.mpr q1]
    simp only [va_2]
    by_cases k2 : k = 2
    · rw [if_pos k2, if_pos k2]
      rfl
    · rw [if_neg k2, if_neg k2]
      by_cases k4 : k = 4
      · rw [if_pos k4, if_neg (by omega), if_pos k4]
      · rw [if_neg k4]
        by_cases k3 : k = 3
        · rw [if_pos k3, if_pos k3]
        · rw [if_neg k3, if_neg k3, if_neg k4]
          by_cases k5 : k = 5
          · rw [if_pos k5, k5]
          · rw [if_neg k5]
            by_cases k6 : k = 6
            · rw [if_pos k6, k6]
            · rw [if_neg k6]
  · have ew : tW b n (tS b n p) = tS b n p := by omega
    rw [ew, if_pos (nI_le (Nat.le_refl _) (by omega)), c_l123 s c2 hq, ob_s]
    unfold F_X6_lookAtNext_b175
    rw [cS_k, gd_d (k1 s), cS_1, cS_1, va_e, va_o _ _ (by decide), va_e]
    by_cases q2 : tS b n p < tD b n (tS b n p)
    · rw [if_neg (nI_ge q2 (by omega)), cS_set]
      congr 3
      funext k
      unfold tF
      rw [tE_2 hq q2, (tK_2 hq).mpr q2]
      simp only [va_2]
      by_cases k2 : k = 2
      · rw [if_pos k2, if_pos k2]
        rfl
      · rw [if_neg k2, if_neg k2]
        by_cases k4 : k = 4
        · rw [if_pos k4, if_neg (by omega), if_pos k4]
        · rw [if_neg k4]
          by_cases k3 : k = 3
          · rw [if_pos k3, if_pos k3]
          · rw [if_neg k3, if_neg k3, if_neg k4]
            by_cases k5 : k = 5
            · rw [if_pos k5, k5]
            · rw [if_neg k5]
              by_cases k6 : k = 6
              · rw [if_pos k6, k6]
              · rw [if_neg k6]
    · have ed : tD b n (tS b n p) = tS b n p := by omega
      have eE : tE b n (tS b n p) = min n (tS b n p + 1) := by
        unfold tE
        rw [if_neg q1, if_neg q2]
      have eK : tK b n (tS b n p) = if tS b n p < n then 3 else 0 := by
        unfold tK
        rw [if_neg q1, if_neg q2]
      have fin : ∀ (v : Nat), v = tK b n (tS b n p) → F_X6_lookAtNext_b209 1 1 (nI v) (cS h J (va_up (va_up F 3 (nI (tS b n p))) 4 (nI (tS b n p)))) = some ((), cS h J (tF b n F (tS b n p) (F 5) (F 6))) := fun v ev => by
        unfold F_X6_lookAtNext_b209
        rw [cS_k, gd_d (k1 s), cS_set, cS_k, gd_d (k1 s), cS_set, cS_1, cS_1, va_o _ _ (by decide), va_o _ _ (by decide), va_o _ _ (by decide), e1, va_o _ _ (show 3 ≠ 2 by decide), va_o _ _ (show 3 ≠ 4 by decide), va_e, nl_1, nadd, jmin_n (by omega) (by omega), ← eE]
        congr 3
        funext k
        unfold tF
        simp only [va_2]
        by_cases k2 : k = 2
        · rw [if_pos k2, if_neg (by omega), if_pos k2, ev]
        · rw [if_neg k2, if_neg k2]
          by_cases k4 : k = 4
          · rw [if_pos k4, if_neg (by omega), if_pos k4]
          · rw [if_neg k4, if_neg k4]
            by_cases k3 : k = 3
            · rw [if_pos k3, if_pos k3]
            · rw [if_neg k3, if_neg k3, if_neg k4]
              by_cases k5 : k = 5
              · rw [if_pos k5, k5]
              · rw [if_neg k5]
                by_cases k6 : k = 6
                · rw [if_pos k6, k6]
                · rw [if_neg k6]
      rw [ed, if_pos (nI_le (Nat.le_refl _) (by omega)), cS_1, va_o _ _ (show 1 ≠ 4 by decide), va_o _ _ (show 1 ≠ 3 by decide), e1]
      by_cases q3 : tS b n p < n
      · rw [if_neg (nI_ge q3 (by omega))]
        exact fin 3 (by rw [eK, if_pos q3])
      · rw [if_pos (nI_le (by omega) (by omega))]
        exact fin 0 (by rw [eK, if_neg q3])
end TAPE
