/-! LOOPS AS FOLDS; CALLS: end, count, room, read, weigh -/
def foldN {α : Type} (u : Nat → α → α) : Nat → α → α
  | 0, a => a
  | n + 1, a => u n (foldN u n a)
theorem foldN_s {α : Type} (u : Nat → α → α) (n : Nat) (a : α) : foldN u (n + 1) a = u n (foldN u n a) := rfl
theorem foldN_rel {α β : Type} {u : Nat → α → α} {v : Nat → β → β} (R : Nat → α → β → Prop) {n : Nat} {a : α} {b : β} (h0 : R 0 a b) (hs : ∀ j a b, j < n → R j a b → R (j + 1) (u j a) (v j b)) : ∀ m, m ≤ n → R m (foldN u m a) (foldN v m b)
  | 0, _ => h0
  | m + 1, h => hs m _ _ (by omega) (foldN_rel R h0 hs m (by omega))
theorem foldN_inv {α : Type} {u : Nat → α → α} (P : Nat → α → Prop) {n : Nat} {a : α} (h0 : P 0 a) (hs : ∀ j a, j < n → P j a → P (j + 1) (u j a)) : ∀ m, m ≤ n → P m (foldN u m a)
  | 0, _ => h0
  | m + 1, h => hs m _ (by omega) (foldN_inv P h0 hs m (by omega))
theorem foldN_congr {α : Type} {u v : Nat → α → α} {n : Nat} {a : α} (h : ∀ j a, j < n → u j a = v j a) : ∀ m, m ≤ n → foldN u m a = foldN v m a
  | 0, _ => rfl
  | m + 1, hm => by rw [foldN_s, foldN_s, foldN_congr h m (by omega), h m _ (by omega)]
section CALLS3
variable {h : Hp}
theorem GS_many {J : Nat → Nat → Int32} (g : GS h) (i2 : Inv (J 60)) (m : ∀ a k w, Mp a k w → J (3 + a) k = J 60 w) (e1 : J 60 1 = zI h 60 1) (e4 : J 60 4 = zI h 60 4) (eb : ∀ k, 71 ≤ k → k < 131 → J 60 k = zI h 60 k) (ew : ∀ k, 147 ≤ k → k < 4232 → J 60 k = zI h 60 k) (e : ∀ a k, ¬ mNo a k → ¬ cNo a k → (a < 3 ∨ (16 ≤ a ∧ a ≤ 18) ∨ 21 ≤ a) → a ≠ 60 → J a k = zI h a k) : GS (wI h J) := by
  obtain ⟨s, i, c, t, -⟩ := id g
  have lo : ∀ a, (∀ k, ¬ mNo a k ∧ ¬ cNo a k) → (a < 3 ∨ (16 ≤ a ∧ a ≤ 18) ∨ 21 ≤ a) → a ≠ 60 → J a = zI h a := fun a hq h1 h2 => funext fun k => e a k (hq k).1 (hq k).2 h1 h2
  refine GS_c g i2 (HR_ch c i m e1 e4 eb ew (fun a h1 h2 => lo _ (fun k => ⟨by unfold mNo; omega, by unfold cNo; omega⟩) (by omega) (by omega)) (fun a h1 => ⟨lo _ (fun k => ⟨by unfold mNo; omega, by unfold cNo; omega⟩) (by omega) (by omega), lo _ (fun k => ⟨by unfold mNo; omega, by unfold cNo; omega⟩) (by omega) (by omega)⟩)) ?_ ?_
  · obtain ⟨t1, t2, t3, t4⟩ := t
    unfold TP
    rw [lo 2 (fun k => ⟨by unfold mNo; omega, by unfold cNo; omega⟩) (by omega) (by omega), lo 63 (fun k => ⟨by unfold mNo; omega, by unfold cNo; omega⟩) (by omega) (by omega), e 1 1 (by unfold mNo; omega) (by unfold cNo; omega) (by omega) (by omega), e 1 6 (by unfold mNo; omega) (by unfold cNo; omega) (by omega) (by omega), e 59 6 (by unfold mNo; omega) (by unfold cNo; omega) (by omega) (by omega), e 59 11 (by unfold mNo; omega) (by unfold cNo; omega) (by omega) (by omega)]
    exact ⟨t1, t2, t3, t4⟩
  · intro a k ha _ _
    exact e a k (by unfold mNo; omega) (by unfold cNo; omega) (by omega) (by omega)
theorem GS_tp {J : Nat → Nat → Int32} (g : GS h) (t : TP J) (e : ∀ a k, a ≠ 1 → a ≠ 2 → a ≠ 63 → ¬ (a = 59 ∧ (k = 6 ∨ k = 11)) → ¬ mNo a k → ¬ cNo a k → J a k = zI h a k) : GS (wI h J) := by
  obtain ⟨s, i, c, -⟩ := id g
  have e60 : ∀ k, k < 4232 → J 60 k = zI h 60 k := fun k hk => e 60 k (by omega) (by omega) (by omega) (by omega) (by unfold mNo; omega) (by unfold cNo; omega)
  refine GS_c g (Inv_congr e60 i) (HR_congr (f := zI h 60) (fun a ha => ?_) (fun g hg => ⟨?_, ?_⟩) e60 i c) t (fun a k ha _ _ => ?_)
  · exact funext fun k => e _ k (by omega) (by omega) (by omega) (by omega) (by unfold mNo; omega) (by unfold cNo; omega)
  · exact funext fun k => e _ k (by omega) (by omega) (by omega) (by omega) (by unfold mNo; omega) (by unfold cNo; omega)
  · exact funext fun k => e _ k (by omega) (by omega) (by omega) (by omega) (by unfold mNo; omega) (by unfold cNo; omega)
  · exact e a k (by omega) (by omega) (by omega) (by omega) (by unfold mNo; omega) (by unfold cNo; omega)
-- end
theorem j_end (g : GS h) (v : Int32) : JA h (F_X11_end 0 v) (F_X12_end 59 v) := by
  obtain ⟨s, i, c, t, -⟩ := id g
  obtain ⟨t1, t2, t3, n, hn, tn⟩ := t
  have z6 : zI (t0 h) 59 6 = nI n := (su_k (by decide)).trans (t2.symm.trans tn)
  have gN : JA h (fun h => some (0, h)) (fun h => some (0, t0 h)) := ⟨0, _, _, rfl, rfl, k59 s, GS_w g (QN_of t0_m), Nat.le_refl _, Nat.le_refl _⟩
  by_cases h1 : v < 0
  · obtain ⟨r, x1, x2, e1, e2, e3, e4⟩ := gN
    cases e1
    cases e2
    refine ⟨0, h, _, ?_, ?_, e3, e4⟩
    · simp only [F_X11_end, F_X11_end_b0, F_X11_end_b15, h1, gd_t, ob_s, ob2_s, ob4_s, sm_l, sm_r, ac_s, decide_true, decide_false, eq_self, ne_eq, not_false_eq_true, not_true_eq_false, if_true, if_false, ite_true, ite_false, reduceIte, or_true, true_or, or_false, false_or, and_true, true_and, Bool.false_eq_true, reduceCtorEq]
    · simp only [F_X12_end, F_X12_end_b0, F_X12_end_b17, h1, t0_d, k59 s, r59_1 s, k60 s, l60 s, k0 s, r0_1 s, k3 s, r3_1 s, r3_2 s, r3_3 s, r3_4 s, r3_6 s, r3_7 s, r3_8 s, r3_9 s, r3_16 s, k4 s, k5 s, k6 s, k7 s, k8 s, k9 s, l4 s, l5 s, l6 s, l7 s, l8 s, l9 s, k11 s, r11_1 s, r11_2 s, r11_3 s, k12 s, k13 s, k14 s, l12 s, l13 s, l14 s, k15 s, r0_0 s, k1 s, gd_t, ob_s, ob2_s, ob4_s, sm_l, sm_r, ac_s, decide_true, decide_false, eq_self, ne_eq, not_false_eq_true, not_true_eq_false, if_true, if_false, ite_true, ite_false, reduceIte, or_true, true_or, or_false, false_or, and_true, true_and, Bool.false_eq_true, reduceCtorEq]
  · obtain ⟨j, hj, rfl⟩ := nI_of h1
    by_cases h2 : j ≤ n
    · have le : (nI j ≤ nI n) = True := nle_t h2 (by omega)
      refine ⟨1, setI h 1 1 (nI j), wI h (up2 (up2 (up2 (zI h) 1 1 (nI j)) 59 0 0) 59 6 (nI j)), ?_, ?_, k59 s, GS_tp g ?_ ?_, Nat.le_refl _, Nat.le_refl _⟩
      · simp only [F_X11_end, F_X11_end_b0, F_X11_end_b15, h1, tn, le, k59 s, r59_1 s, k60 s, l60 s, k0 s, r0_1 s, k3 s, r3_1 s, r3_2 s, r3_3 s, r3_4 s, r3_6 s, r3_7 s, r3_8 s, r3_9 s, r3_16 s, k4 s, k5 s, k6 s, k7 s, k8 s, k9 s, l4 s, l5 s, l6 s, l7 s, l8 s, l9 s, k11 s, r11_1 s, r11_2 s, r11_3 s, k12 s, k13 s, k14 s, l12 s, l13 s, l14 s, k15 s, r0_0 s, k1 s, gd_t, ob_s, ob2_s, ob4_s, sm_l, sm_r, ac_s, decide_true, decide_false, eq_self, ne_eq, not_false_eq_true, not_true_eq_false, if_true, if_false, ite_true, ite_false, reduceIte, or_true, true_or, or_false, false_or, and_true, true_and, Bool.false_eq_true, reduceCtorEq]
      · have s' : Sh (setI h 1 1 (nI j)) := Sh_w s _
        have z7 : zI (t0 (setI h 1 1 (nI j))) 59 6 = nI n := by
          rw [← z6]
          exact (su_k (by decide)).trans ((congrFun (su_n (by decide)) 6).trans (su_k (by decide)).symm)
        simp only [F_X12_end, F_X12_end_b0, F_X12_end_b17, h1, t0_d, z7, le, k59 s', gd_t, ob_s, ob2_s, ob4_s, sm_l, sm_r, ac_s, decide_true, decide_false, eq_self, ne_eq, not_false_eq_true, not_true_eq_false, if_true, if_false, ite_true, ite_false, reduceIte, or_true, true_or, or_false, false_or, and_true, true_and, Bool.false_eq_true, reduceCtorEq]
        rfl
      · refine ⟨fun k hk => ?_, ?_, ?_, j, by omega, ?_⟩
        · rw [up2_a _ _ _ _ _ (by decide), up2_a _ _ _ _ _ (by decide), up2_a _ _ _ _ _ (by decide), up2_a _ _ _ _ _ (by decide), up2_a _ _ _ _ _ (by decide), up2_a _ _ _ _ _ (by decide)]
          exact t1 k hk
        · rw [up2_a _ _ _ _ _ (by decide), up2_a _ _ _ _ _ (by decide), up2_e, up2_e]
        · rw [up2_a _ _ _ _ _ (by decide), up2_a _ _ _ _ _ (by decide), up2_k _ _ _ _ _ (by decide), up2_k _ _ _ _ _ (by decide), up2_k _ _ _ _ _ (by decide), up2_a _ _ _ _ _ (by decide)]
          exact t3
        · rw [up2_a _ _ _ _ _ (by decide), up2_a _ _ _ _ _ (by decide), up2_e]
      · intro a k n1 n2 n3 n4 n5 n6
        by_cases ha : a = 59
        · subst ha
          rw [up2_k _ _ _ _ _ (by omega), up2_k _ _ _ _ _ (by unfold mNo at n5; omega), up2_a _ _ _ _ _ (by decide)]
        · rw [up2_a _ _ _ _ _ ha, up2_a _ _ _ _ _ ha, up2_a _ _ _ _ _ n1]
    · have le : (nI j ≤ nI n) = False := nle_f (by omega) hj
      obtain ⟨r, x1, x2, e1, e2, e3, e4⟩ := gN
      cases e1
      cases e2
      refine ⟨0, h, _, ?_, ?_, e3, e4⟩
      · simp only [F_X11_end, F_X11_end_b0, F_X11_end_b15, h1, tn, le, k59 s, r59_1 s, k60 s, l60 s, k0 s, r0_1 s, k3 s, r3_1 s, r3_2 s, r3_3 s, r3_4 s, r3_6 s, r3_7 s, r3_8 s, r3_9 s, r3_16 s, k4 s, k5 s, k6 s, k7 s, k8 s, k9 s, l4 s, l5 s, l6 s, l7 s, l8 s, l9 s, k11 s, r11_1 s, r11_2 s, r11_3 s, k12 s, k13 s, k14 s, l12 s, l13 s, l14 s, k15 s, r0_0 s, k1 s, gd_t, ob_s, ob2_s, ob4_s, sm_l, sm_r, ac_s, decide_true, decide_false, eq_self, ne_eq, not_false_eq_true, not_true_eq_false, if_true, if_false, ite_true, ite_false, reduceIte, or_true, true_or, or_false, false_or, and_true, true_and, Bool.false_eq_true, reduceCtorEq]
      · simp only [F_X12_end, F_X12_end_b0, F_X12_end_b17, h1, t0_d, z6, le, k59 s, r59_1 s, k60 s, l60 s, k0 s, r0_1 s, k3 s, r3_1 s, r3_2 s, r3_3 s, r3_4 s, r3_6 s, r3_7 s, r3_8 s, r3_9 s, r3_16 s, k4 s, k5 s, k6 s, k7 s, k8 s, k9 s, l4 s, l5 s, l6 s, l7 s, l8 s, l9 s, k11 s, r11_1 s, r11_2 s, r11_3 s, k12 s, k13 s, k14 s, l12 s, l13 s, l14 s, k15 s, r0_0 s, k1 s, gd_t, ob_s, ob2_s, ob4_s, sm_l, sm_r, ac_s, decide_true, decide_false, eq_self, ne_eq, not_false_eq_true, not_true_eq_false, if_true, if_false, ite_true, ite_false, reduceIte, or_true, true_or, or_false, false_or, and_true, true_and, Bool.false_eq_true, reduceCtorEq]
-- count
def snS (f : Nat → Int32) : Int32 := accN 0 (fun r => f (14 + 4 * r)) (nR f)
def wiS (f : Nat → Int32) : Int32 := accN 0 (fun g => f (147 + 817 * g)) (nG f)
theorem x_snow {f : Nat → Int32} (s : Sh h) (i : Inv f) (c : HR (zI h) 3 f) : F_X2_snowOfAll 3 h = some (snS f) := by
  unfold F_X2_snowOfAll F_X2_snowOfAll_b0
  have hn := iR8 i
  refine ob_p (iter_run (fun j => (accN 0 (fun r => f (14 + 4 * r)) j, nI j)) (nR f) _ (fun j hj => ?_) ?_ (FU_lt (by omega))) _
  · show F_X2_snowOfAll_l4 3 (accN 0 (fun r => f (14 + 4 * r)) j) (nI j) h = _
    have c4 : zI h 7 j = f (14 + 4 * j) := (c.2.1 j (by omega)).2.2.2
    simp (disch := omega) only [F_X2_snowOfAll_l4, c.1.1, iR i, nle_f hj, ix_t, ncl, c4, nI_1, k59 s, r59_1 s, k60 s, l60 s, k0 s, r0_1 s, k3 s, r3_1 s, r3_2 s, r3_3 s, r3_4 s, r3_6 s, r3_7 s, r3_8 s, r3_9 s, r3_16 s, k4 s, k5 s, k6 s, k7 s, k8 s, k9 s, l4 s, l5 s, l6 s, l7 s, l8 s, l9 s, k11 s, r11_1 s, r11_2 s, r11_3 s, k12 s, k13 s, k14 s, l12 s, l13 s, l14 s, k15 s, r0_0 s, k1 s, gd_t, ob_s, ob2_s, ob4_s, sm_l, sm_r, ac_s, decide_true, decide_false, eq_self, ne_eq, not_false_eq_true, not_true_eq_false, if_true, if_false, ite_true, ite_false, reduceIte, or_true, true_or, or_false, false_or, and_true, true_and, Bool.false_eq_true, reduceCtorEq]
    rfl
  · show F_X2_snowOfAll_l4 3 (accN 0 (fun r => f (14 + 4 * r)) (nR f)) (nI (nR f)) h = _
    simp only [F_X2_snowOfAll_l4, c.1.1, iR i, Int32.le_refl, k59 s, r59_1 s, k60 s, l60 s, k0 s, r0_1 s, k3 s, r3_1 s, r3_2 s, r3_3 s, r3_4 s, r3_6 s, r3_7 s, r3_8 s, r3_9 s, r3_16 s, k4 s, k5 s, k6 s, k7 s, k8 s, k9 s, l4 s, l5 s, l6 s, l7 s, l8 s, l9 s, k11 s, r11_1 s, r11_2 s, r11_3 s, k12 s, k13 s, k14 s, l12 s, l13 s, l14 s, k15 s, r0_0 s, k1 s, gd_t, ob_s, ob2_s, ob4_s, sm_l, sm_r, ac_s, decide_true, decide_false, eq_self, ne_eq, not_false_eq_true, not_true_eq_false, if_true, if_false, ite_true, ite_false, reduceIte, or_true, true_or, or_false, false_or, and_true, true_and, Bool.false_eq_true, reduceCtorEq]
    rfl
theorem wr0 {f : Nat → Int32} (c : HR (zI h) 3 f) {g : Nat} (hg : g < nG f) : zI h (21 + 3 * g) 0 = f (147 + 817 * g) := ((HR_ws c g hg).2.1 : zI h (3 + 18 + 3 * g) 0 = _)
theorem x_wishes {f : Nat → Int32} (s : Sh h) (i : Inv f) (c : HR (zI h) 3 f) : F_X2_wishesOfAll 3 h = some (wiS f) := by
  unfold F_X2_wishesOfAll F_X2_wishesOfAll_b0
  have hn := iG5 i
  refine ob_p (iter_run (fun j => (accN 0 (fun g => f (147 + 817 * g)) j, nI j)) (nG f) _ (fun j hj => ?_) ?_ (FU_lt (by omega))) _
  · show F_X2_wishesOfAll_l4 3 (accN 0 (fun g => f (147 + 817 * g)) j) (nI j) h = _
    simp (disch := omega) only [F_X2_wishesOfAll_l4, c.1.2.1, iG i, nle_f hj, ix_t, ncl, k10 s, l10 s, r10_g s, (kWg s (show j < 5 by omega)).1, wr0 c hj, nI_1, k59 s, r59_1 s, k60 s, l60 s, k0 s, r0_1 s, k3 s, r3_1 s, r3_2 s, r3_3 s, r3_4 s, r3_6 s, r3_7 s, r3_8 s, r3_9 s, r3_16 s, k4 s, k5 s, k6 s, k7 s, k8 s, k9 s, l4 s, l5 s, l6 s, l7 s, l8 s, l9 s, k11 s, r11_1 s, r11_2 s, r11_3 s, k12 s, k13 s, k14 s, l12 s, l13 s, l14 s, k15 s, r0_0 s, k1 s, gd_t, ob_s, ob2_s, ob4_s, sm_l, sm_r, ac_s, decide_true, decide_false, eq_self, ne_eq, not_false_eq_true, not_true_eq_false, if_true, if_false, ite_true, ite_false, reduceIte, or_true, true_or, or_false, false_or, and_true, true_and, Bool.false_eq_true, reduceCtorEq]
    rfl
  · show F_X2_wishesOfAll_l4 3 (accN 0 (fun g => f (147 + 817 * g)) (nG f)) (nI (nG f)) h = _
    simp only [F_X2_wishesOfAll_l4, c.1.2.1, iG i, Int32.le_refl, k59 s, r59_1 s, k60 s, l60 s, k0 s, r0_1 s, k3 s, r3_1 s, r3_2 s, r3_3 s, r3_4 s, r3_6 s, r3_7 s, r3_8 s, r3_9 s, r3_16 s, k4 s, k5 s, k6 s, k7 s, k8 s, k9 s, l4 s, l5 s, l6 s, l7 s, l8 s, l9 s, k11 s, r11_1 s, r11_2 s, r11_3 s, k12 s, k13 s, k14 s, l12 s, l13 s, l14 s, k15 s, r0_0 s, k1 s, gd_t, ob_s, ob2_s, ob4_s, sm_l, sm_r, ac_s, decide_true, decide_false, eq_self, ne_eq, not_false_eq_true, not_true_eq_false, if_true, if_false, ite_true, ite_false, reduceIte, or_true, true_or, or_false, false_or, and_true, true_and, Bool.false_eq_true, reduceCtorEq]
    rfl
def cntS (f : Nat → Int32) (v : Int32) : Int32 := if v = 0 then f 0 else if v = 1 then f 1 else if v = 2 then f 2 else if v = 3 then f 3 else if v = 4 then f 4 else if v = 5 then f 5 else if v = 6 then f 6 else if v = 7 then f 7 else if v = 8 then f 8 else if v = 9 then f 9 else if v = 10 then snS f else if v = 11 then wiS f else -1
theorem ite_some {α : Type} {p : Prop} [Decidable p] (a b : α) : (if p then some a else some b) = some (if p then a else b) := by
  by_cases q : p
  · rw [if_pos q, if_pos q]
  · rw [if_neg q, if_neg q]
theorem ite_pair {α β : Type} {p : Prop} [Decidable p] (a b : α) (c : β) : (if p then (a, c) else (b, c)) = ((if p then a else b), c) := by
  by_cases q : p
  · rw [if_pos q, if_pos q]
  · rw [if_neg q, if_neg q]
theorem m_count10 (s : Sh h) (i : Inv (zI h 60)) : iter (fun z : Int32 × Int32 => F_X12_count_l142 59 z.1 z.2 h) FU (0, 0) = some (snS (zI h 60)) := by
  have hn := iR8 i
  refine iter_run (fun j => (accN 0 (fun r => zI h 60 (14 + 4 * r)) j, nI j)) (nR (zI h 60)) _ (fun j hj => ?_) ?_ (FU_lt (by omega))
  · show F_X12_count_l142 59 (accN 0 (fun r => zI h 60 (14 + 4 * r)) j) (nI j) h = _
    simp (disch := omega) only [F_X12_count_l142, m_rooms s, iR i, nle_f hj, m_ofS s, nI_1, k59 s, r59_1 s, k60 s, l60 s, k0 s, r0_1 s, k3 s, r3_1 s, r3_2 s, r3_3 s, r3_4 s, r3_6 s, r3_7 s, r3_8 s, r3_9 s, r3_16 s, k4 s, k5 s, k6 s, k7 s, k8 s, k9 s, l4 s, l5 s, l6 s, l7 s, l8 s, l9 s, k11 s, r11_1 s, r11_2 s, r11_3 s, k12 s, k13 s, k14 s, l12 s, l13 s, l14 s, k15 s, r0_0 s, k1 s, gd_t, ob_s, ob2_s, ob4_s, sm_l, sm_r, ac_s, decide_true, decide_false, eq_self, ne_eq, not_false_eq_true, not_true_eq_false, if_true, if_false, ite_true, ite_false, reduceIte, or_true, true_or, or_false, false_or, and_true, true_and, Bool.false_eq_true, reduceCtorEq]
    rfl
  · show F_X12_count_l142 59 (accN 0 (fun r => zI h 60 (14 + 4 * r)) (nR (zI h 60))) (nI (nR (zI h 60))) h = _
    simp only [F_X12_count_l142, m_rooms s, iR i, Int32.le_refl, k59 s, r59_1 s, k60 s, l60 s, k0 s, r0_1 s, k3 s, r3_1 s, r3_2 s, r3_3 s, r3_4 s, r3_6 s, r3_7 s, r3_8 s, r3_9 s, r3_16 s, k4 s, k5 s, k6 s, k7 s, k8 s, k9 s, l4 s, l5 s, l6 s, l7 s, l8 s, l9 s, k11 s, r11_1 s, r11_2 s, r11_3 s, k12 s, k13 s, k14 s, l12 s, l13 s, l14 s, k15 s, r0_0 s, k1 s, gd_t, ob_s, ob2_s, ob4_s, sm_l, sm_r, ac_s, decide_true, decide_false, eq_self, ne_eq, not_false_eq_true, not_true_eq_false, if_true, if_false, ite_true, ite_false, reduceIte, or_true, true_or, or_false, false_or, and_true, true_and, Bool.false_eq_true, reduceCtorEq]
    rfl
theorem m_count11 (s : Sh h) (i : Inv (zI h 60)) : iter (fun z : Int32 × Int32 => F_X12_count_l169 59 z.1 z.2 h) FU (0, 0) = some (wiS (zI h 60)) := by
  have hn := iG5 i
  refine iter_run (fun j => (accN 0 (fun g => zI h 60 (147 + 817 * g)) j, nI j)) (nG (zI h 60)) _ (fun j hj => ?_) ?_ (FU_lt (by omega))
  · show F_X12_count_l169 59 (accN 0 (fun g => zI h 60 (147 + 817 * g)) j) (nI j) h = _
    simp (disch := omega) only [F_X12_count_l169, m_guests s, iG i, nle_f hj, nl_147, nl_817, nmul, nadd, ix_t, ncl, nI_1, k59 s, r59_1 s, k60 s, l60 s, k0 s, r0_1 s, k3 s, r3_1 s, r3_2 s, r3_3 s, r3_4 s, r3_6 s, r3_7 s, r3_8 s, r3_9 s, r3_16 s, k4 s, k5 s, k6 s, k7 s, k8 s, k9 s, l4 s, l5 s, l6 s, l7 s, l8 s, l9 s, k11 s, r11_1 s, r11_2 s, r11_3 s, k12 s, k13 s, k14 s, l12 s, l13 s, l14 s, k15 s, r0_0 s, k1 s, gd_t, ob_s, ob2_s, ob4_s, sm_l, sm_r, ac_s, decide_true, decide_false, eq_self, ne_eq, not_false_eq_true, not_true_eq_false, if_true, if_false, ite_true, ite_false, reduceIte, or_true, true_or, or_false, false_or, and_true, true_and, Bool.false_eq_true, reduceCtorEq]
    rfl
  · show F_X12_count_l169 59 (accN 0 (fun g => zI h 60 (147 + 817 * g)) (nG (zI h 60))) (nI (nG (zI h 60))) h = _
    simp only [F_X12_count_l169, m_guests s, iG i, Int32.le_refl, k59 s, r59_1 s, k60 s, l60 s, k0 s, r0_1 s, k3 s, r3_1 s, r3_2 s, r3_3 s, r3_4 s, r3_6 s, r3_7 s, r3_8 s, r3_9 s, r3_16 s, k4 s, k5 s, k6 s, k7 s, k8 s, k9 s, l4 s, l5 s, l6 s, l7 s, l8 s, l9 s, k11 s, r11_1 s, r11_2 s, r11_3 s, k12 s, k13 s, k14 s, l12 s, l13 s, l14 s, k15 s, r0_0 s, k1 s, gd_t, ob_s, ob2_s, ob4_s, sm_l, sm_r, ac_s, decide_true, decide_false, eq_self, ne_eq, not_false_eq_true, not_true_eq_false, if_true, if_false, ite_true, ite_false, reduceIte, or_true, true_or, or_false, false_or, and_true, true_and, Bool.false_eq_true, reduceCtorEq]
    rfl
theorem cl_lit {v : Int32} {n : Nat} (e : v = nI n) (hn : n < 2147483648) : v.toNatClampNeg = n := by
  rw [e, ncl hn]
theorem j_count (g : GS h) (v : Int32) : JR h (F_X11_count 0 v) (F_X12_count 59 v) := by
  obtain ⟨s, i, c, -⟩ := id g
  obtain ⟨c0, c1, c2, c3, c4, c5, c6, c7, c8, c9, c10⟩ := c.1
  refine JR_m g (r := cntS (zI h 60) v) (J := zI (t0 h)) ?_ ?_ t0_m
  · simp only [F_X11_count, F_X11_count_b0, x_snow s i c, x_wishes s i c, k59 s, r59_1 s, k60 s, l60 s, k0 s, r0_1 s, k3 s, r3_1 s, r3_2 s, r3_3 s, r3_4 s, r3_6 s, r3_7 s, r3_8 s, r3_9 s, r3_16 s, k4 s, k5 s, k6 s, k7 s, k8 s, k9 s, l4 s, l5 s, l6 s, l7 s, l8 s, l9 s, k11 s, r11_1 s, r11_2 s, r11_3 s, k12 s, k13 s, k14 s, l12 s, l13 s, l14 s, k15 s, r0_0 s, k1 s, gd_t, ob_s, ob2_s, ob4_s, sm_l, sm_r, ac_s, decide_true, decide_false, eq_self, ne_eq, not_false_eq_true, not_true_eq_false, if_true, if_false, ite_true, ite_false, reduceIte, or_true, true_or, or_false, false_or, and_true, true_and, Bool.false_eq_true, reduceCtorEq]
    have d2 : zI h 11 0 = zI h 60 2 := c2
    have d4 : zI h 15 0 = zI h 60 4 := c4
    simp only [c0, c1, d2, c3, d4, c5, c6, c7, c8, c9, ite_some, cntS]
  · simp (maxSteps := 4000000) only [F_X12_count, F_X12_count_b0, m_rooms (t0_s s), m_guests (t0_s s), m_trunks (t0_s s), m_count10 (t0_s s) (t0_i i), m_count11 (t0_s s) (t0_i i), k59 s, r59_1 s, k60 s, l60 s, k0 s, r0_1 s, k3 s, r3_1 s, r3_2 s, r3_3 s, r3_4 s, r3_6 s, r3_7 s, r3_8 s, r3_9 s, r3_16 s, k4 s, k5 s, k6 s, k7 s, k8 s, k9 s, l4 s, l5 s, l6 s, l7 s, l8 s, l9 s, k11 s, r11_1 s, r11_2 s, r11_3 s, k12 s, k13 s, k14 s, l12 s, l13 s, l14 s, k15 s, r0_0 s, k1 s, t0_d, tk_d, t0_k, t0_l, t0_r, t0_60, tk_k, tk_l, tk_r, tk_60, hS_k, hS_l, hS_r, hS_60, one0, b2_t, b2_f, Bool.not_true, Bool.not_false, Bool.false_eq_true, gd_t, ob_s, ob2_s, ob4_s, sm_l, sm_r, ac_s, decide_true, decide_false, eq_self, ne_eq, not_false_eq_true, not_true_eq_false, if_true, if_false, ite_true, ite_false, reduceIte, or_true, true_or, or_false, false_or, and_true, true_and, Bool.false_eq_true, reduceCtorEq]
    simp only [show ix (3 : Int32) 5049 = true by decide, show ix (4 : Int32) 5049 = true by decide, show ix (5 : Int32) 5049 = true by decide, show ix (6 : Int32) 5049 = true by decide, show ix (7 : Int32) 5049 = true by decide, show ix (8 : Int32) 5049 = true by decide, show ix (9 : Int32) 5049 = true by decide, gd_t, ite_some, ite_pair]
    simp only [cntS, show (3 : Int32).toNatClampNeg = 3 by decide, show (4 : Int32).toNatClampNeg = 4 by decide, show (5 : Int32).toNatClampNeg = 5 by decide, show (6 : Int32).toNatClampNeg = 6 by decide, show (7 : Int32).toNatClampNeg = 7 by decide, show (8 : Int32).toNatClampNeg = 8 by decide, show (9 : Int32).toNatClampNeg = 9 by decide]
    rfl
-- room
theorem x_lyingIn {f : Nat → Int32} (i : Inv f) {T : Nat} {tf : Nat → Nat} (t : TV h T f tf) {r : Nat} (hr : r < 2147483648) : F_X8_lyingIn T (nI r) h = some (nI (fb_ct (fun k => decide (tf k = r)) (nT f))) := by
  unfold F_X8_lyingIn F_X8_lyingIn_b0
  have hn := iT6 i
  obtain ⟨⟨t1, t2, t3, t4⟩, ⟨u1, u2, u3, u4, u5, u6⟩, t5, t6⟩ := t
  refine ob_p (iter_run (fun j => (nI (fb_ct (fun k => decide (tf k = r)) j), nI j)) (nT f) _ (fun j hj => ?_) ?_ (FU_lt (by omega))) _
  · show F_X8_lyingIn_l4 T (nI r) (nI (fb_ct (fun k => decide (tf k = r)) j)) (nI j) h = _
    obtain ⟨-, -, h3, h4⟩ := t6 j hj
    simp (disch := omega) only [F_X8_lyingIn_l4, F_X8_lyingIn_b25, t1, t5, iT i, nle_f hj, t4, u3, u6, ix_t, ncl, h3, nI_1, ct_suc, gd_t, ob_s, ob2_s, ob4_s, sm_l, sm_r, ac_s, decide_true, decide_false, eq_self, ne_eq, not_false_eq_true, not_true_eq_false, if_true, if_false, ite_true, ite_false, reduceIte, or_true, true_or, or_false, false_or, and_true, true_and, Bool.false_eq_true, reduceCtorEq]
    by_cases q : tf j = r
    · rw [if_pos (by rw [q]), if_pos (decide_eq_true q)]
    · rw [if_neg (fun z => q ((nI_eq (by omega) hr).mp z)), if_neg (by simp [q])]
      rfl
  · show F_X8_lyingIn_l4 T (nI r) (nI (fb_ct (fun k => decide (tf k = r)) (nT f))) (nI (nT f)) h = _
    simp only [F_X8_lyingIn_l4, t1, t5, iT i, Int32.le_refl, gd_t, ob_s, ob2_s, ob4_s, sm_l, sm_r, ac_s, decide_true, decide_false, eq_self, ne_eq, not_false_eq_true, not_true_eq_false, if_true, if_false, ite_true, ite_false, reduceIte, or_true, true_or, or_false, false_or, and_true, true_and, Bool.false_eq_true, reduceCtorEq]
def rooS (f : Nat → Int32) (r : Nat) (w : Int32) : Int32 := if w = 0 then f (11 + 4 * r) else if w = 1 then f (12 + 4 * r) else if w = 2 then f (13 + 4 * r) else if w = 3 then f (14 + 4 * r) else if w = 4 then jabs (f (11 + 4 * r)) + jabs (f (12 + 4 * r)) else if w = 5 then nI (hdS (sit f) (nG f) r) else nI (fb_ct (fun k => decide (tin f k = r)) (nT f))
theorem m_room5 (s : Sh h) (i : Inv (zI h 60)) {r : Nat} (hr : r < 8) : iter (fun z : Int32 × Int32 => F_X12_room_l81 59 (nI r) 5 z.1 z.2 h) FU (0, 0) = some (nI (hdS (sit (zI h 60)) (nG (zI h 60)) r)) := by
  have hn := iG5 i
  have r8 := iR8 i
  refine iter_run (fun j => (nI (hdS (sit (zI h 60)) j r), nI j)) (nG (zI h 60)) _ (fun j hj => ?_) ?_ (FU_lt (by omega))
  · show F_X12_room_l81 59 (nI r) 5 (nI (hdS (sit (zI h 60)) j r)) (nI j) h = _
    obtain ⟨-, h1, h2⟩ := igs i j hj
    simp (disch := omega) only [F_X12_room_l81, F_X12_room_b111, m_guests s, iG i, nle_f hj, m_roomOf s, h1, nI_1, k59 s, r59_1 s, k60 s, l60 s, k0 s, r0_1 s, k3 s, r3_1 s, r3_2 s, r3_3 s, r3_4 s, r3_6 s, r3_7 s, r3_8 s, r3_9 s, r3_16 s, k4 s, k5 s, k6 s, k7 s, k8 s, k9 s, l4 s, l5 s, l6 s, l7 s, l8 s, l9 s, k11 s, r11_1 s, r11_2 s, r11_3 s, k12 s, k13 s, k14 s, l12 s, l13 s, l14 s, k15 s, r0_0 s, k1 s, gd_t, ob_s, ob2_s, ob4_s, sm_l, sm_r, ac_s, decide_true, decide_false, eq_self, ne_eq, not_false_eq_true, not_true_eq_false, if_true, if_false, ite_true, ite_false, reduceIte, or_true, true_or, or_false, false_or, and_true, true_and, Bool.false_eq_true, reduceCtorEq]
    unfold hdS
    rw [ct_suc]
    by_cases q : sit (zI h 60) j = r
    · rw [if_pos (by rw [q]), if_pos (decide_eq_true q)]
    · rw [if_neg (fun z => q ((nI_eq (by omega) (by omega)).mp z)), if_neg (by simp [q]), Int32.add_zero]
      rfl
  · show F_X12_room_l81 59 (nI r) 5 (nI (hdS (sit (zI h 60)) (nG (zI h 60)) r)) (nI (nG (zI h 60))) h = _
    simp only [F_X12_room_l81, m_guests s, iG i, Int32.le_refl, k59 s, r59_1 s, k60 s, l60 s, k0 s, r0_1 s, k3 s, r3_1 s, r3_2 s, r3_3 s, r3_4 s, r3_6 s, r3_7 s, r3_8 s, r3_9 s, r3_16 s, k4 s, k5 s, k6 s, k7 s, k8 s, k9 s, l4 s, l5 s, l6 s, l7 s, l8 s, l9 s, k11 s, r11_1 s, r11_2 s, r11_3 s, k12 s, k13 s, k14 s, l12 s, l13 s, l14 s, k15 s, r0_0 s, k1 s, gd_t, ob_s, ob2_s, ob4_s, sm_l, sm_r, ac_s, decide_true, decide_false, eq_self, ne_eq, not_false_eq_true, not_true_eq_false, if_true, if_false, ite_true, ite_false, reduceIte, or_true, true_or, or_false, false_or, and_true, true_and, Bool.false_eq_true, reduceCtorEq]
theorem m_room6 (s : Sh h) (i : Inv (zI h 60)) {r : Nat} (hr : r < 8) : iter (fun z : Int32 × Int32 => F_X12_room_l122 59 (nI r) 6 z.1 z.2 h) FU (0, 0) = some (nI (fb_ct (fun k => decide (tin (zI h 60) k = r)) (nT (zI h 60)))) := by
  have hn := iT6 i
  have r8 := iR8 i
  refine iter_run (fun j => (nI (fb_ct (fun k => decide (tin (zI h 60) k = r)) j), nI j)) (nT (zI h 60)) _ (fun j hj => ?_) ?_ (FU_lt (by omega))
  · show F_X12_room_l122 59 (nI r) 6 (nI (fb_ct (fun k => decide (tin (zI h 60) k = r)) j)) (nI j) h = _
    obtain ⟨-, -, -, h1, h2⟩ := itr i j hj
    simp (disch := omega) only [F_X12_room_l122, F_X12_room_b154, m_trunks s, iT i, nle_f hj, m_ofI s, h1, nI_1, ct_suc, k59 s, r59_1 s, k60 s, l60 s, k0 s, r0_1 s, k3 s, r3_1 s, r3_2 s, r3_3 s, r3_4 s, r3_6 s, r3_7 s, r3_8 s, r3_9 s, r3_16 s, k4 s, k5 s, k6 s, k7 s, k8 s, k9 s, l4 s, l5 s, l6 s, l7 s, l8 s, l9 s, k11 s, r11_1 s, r11_2 s, r11_3 s, k12 s, k13 s, k14 s, l12 s, l13 s, l14 s, k15 s, r0_0 s, k1 s, gd_t, ob_s, ob2_s, ob4_s, sm_l, sm_r, ac_s, decide_true, decide_false, eq_self, ne_eq, not_false_eq_true, not_true_eq_false, if_true, if_false, ite_true, ite_false, reduceIte, or_true, true_or, or_false, false_or, and_true, true_and, Bool.false_eq_true, reduceCtorEq]
    by_cases q : tin (zI h 60) j = r
    · rw [if_pos (by rw [q]), if_pos (decide_eq_true q)]
    · rw [if_neg (fun z => q ((nI_eq (by omega) (by omega)).mp z)), if_neg (by simp [q]), Int32.add_zero]
      rfl
  · show F_X12_room_l122 59 (nI r) 6 (nI (fb_ct (fun k => decide (tin (zI h 60) k = r)) (nT (zI h 60)))) (nI (nT (zI h 60))) h = _
    simp only [F_X12_room_l122, m_trunks s, iT i, Int32.le_refl, k59 s, r59_1 s, k60 s, l60 s, k0 s, r0_1 s, k3 s, r3_1 s, r3_2 s, r3_3 s, r3_4 s, r3_6 s, r3_7 s, r3_8 s, r3_9 s, r3_16 s, k4 s, k5 s, k6 s, k7 s, k8 s, k9 s, l4 s, l5 s, l6 s, l7 s, l8 s, l9 s, k11 s, r11_1 s, r11_2 s, r11_3 s, k12 s, k13 s, k14 s, l12 s, l13 s, l14 s, k15 s, r0_0 s, k1 s, gd_t, ob_s, ob2_s, ob4_s, sm_l, sm_r, ac_s, decide_true, decide_false, eq_self, ne_eq, not_false_eq_true, not_true_eq_false, if_true, if_false, ite_true, ite_false, reduceIte, or_true, true_or, or_false, false_or, and_true, true_and, Bool.false_eq_true, reduceCtorEq]
theorem iter_1 {S X : Type} {body : S → Option (S ⊕ X)} {s0 : S} {x : X} (hx : body s0 = some (.inr x)) : iter body FU s0 = some x := iter_run (fun _ => s0) 0 x (fun i hi => absurd hi (by omega)) hx (FU_lt (by omega))
theorem m_roomA (s : Sh h) (i : Inv (zI h 60)) (r : Int32) (c : Int32) : iter (fun z : Int32 × Int32 => F_X12_room_l122 59 r 5 z.1 z.2 h) FU (c, 0) = some c := by
  refine iter_1 ?_
  show F_X12_room_l122 59 r 5 c 0 h = _
  have z : ((5 : Int32) = 6) = False := eq_false (by decide)
  simp only [F_X12_room_l122, m_trunks s, z, k59 s, r59_1 s, k60 s, l60 s, k0 s, r0_1 s, k3 s, r3_1 s, r3_2 s, r3_3 s, r3_4 s, r3_6 s, r3_7 s, r3_8 s, r3_9 s, r3_16 s, k4 s, k5 s, k6 s, k7 s, k8 s, k9 s, l4 s, l5 s, l6 s, l7 s, l8 s, l9 s, k11 s, r11_1 s, r11_2 s, r11_3 s, k12 s, k13 s, k14 s, l12 s, l13 s, l14 s, k15 s, r0_0 s, k1 s, gd_t, ob_s, ob2_s, ob4_s, sm_l, sm_r, ac_s, decide_true, decide_false, eq_self, ne_eq, not_false_eq_true, not_true_eq_false, if_true, if_false, ite_true, ite_false, reduceIte, or_true, true_or, or_false, false_or, and_true, true_and, Bool.false_eq_true, reduceCtorEq]
  by_cases q : zI h 60 2 ≤ 0
  · rw [if_pos q]
  · rw [if_neg q]
theorem m_roomB (s : Sh h) (i : Inv (zI h 60)) (r : Int32) : iter (fun z : Int32 × Int32 => F_X12_room_l81 59 r 6 z.1 z.2 h) FU (0, 0) = some 0 := by
  refine iter_1 ?_
  show F_X12_room_l81 59 r 6 0 0 h = _
  have z : ((6 : Int32) = 5) = False := eq_false (by decide)
  simp only [F_X12_room_l81, m_guests s, z, k59 s, r59_1 s, k60 s, l60 s, k0 s, r0_1 s, k3 s, r3_1 s, r3_2 s, r3_3 s, r3_4 s, r3_6 s, r3_7 s, r3_8 s, r3_9 s, r3_16 s, k4 s, k5 s, k6 s, k7 s, k8 s, k9 s, l4 s, l5 s, l6 s, l7 s, l8 s, l9 s, k11 s, r11_1 s, r11_2 s, r11_3 s, k12 s, k13 s, k14 s, l12 s, l13 s, l14 s, k15 s, r0_0 s, k1 s, gd_t, ob_s, ob2_s, ob4_s, sm_l, sm_r, ac_s, decide_true, decide_false, eq_self, ne_eq, not_false_eq_true, not_true_eq_false, if_true, if_false, ite_true, ite_false, reduceIte, or_true, true_or, or_false, false_or, and_true, true_and, Bool.false_eq_true, reduceCtorEq]
  by_cases q : zI h 60 1 ≤ 0
  · rw [if_pos q]
  · rw [if_neg q]
theorem m_room (s : Sh h) (i : Inv (zI h 60)) (v w : Int32) : F_X12_room 59 v w h = if isIn v (nR (zI h 60)) then (if isIn w 7 then some (rooS (zI h 60) v.toNatClampNeg w, t0 h) else some (0, tk h 2)) else some (0, tk h 1) := by
  have r8 := iR8 i
  have e2 : ∀ H : Hp, F_X12_in w 0 6 H = some (b2 (isIn w 7)) := fun H => m_inN (n := 7) (by omega) rfl
  simp only [F_X12_room, F_X12_room_b0, F_X12_room_b34, F_X12_room_b41, F_X12_room_b119, F_X12_room_b162, e2, m_noRoom (t0_s s) (t0_i i), m_throwsIf (t0_s s), k59 s, r59_1 s, k60 s, l60 s, k0 s, r0_1 s, k3 s, r3_1 s, r3_2 s, r3_3 s, r3_4 s, r3_6 s, r3_7 s, r3_8 s, r3_9 s, r3_16 s, k4 s, k5 s, k6 s, k7 s, k8 s, k9 s, l4 s, l5 s, l6 s, l7 s, l8 s, l9 s, k11 s, r11_1 s, r11_2 s, r11_3 s, k12 s, k13 s, k14 s, l12 s, l13 s, l14 s, k15 s, r0_0 s, k1 s, t0_d, tk_d, t0_k, t0_l, t0_r, t0_60, tk_k, tk_l, tk_r, tk_60, hS_k, hS_l, hS_r, hS_60, one0, b2_t, b2_f, Bool.not_true, Bool.not_false, Bool.false_eq_true, gd_t, ob_s, ob2_s, ob4_s, sm_l, sm_r, ac_s, decide_true, decide_false, eq_self, ne_eq, not_false_eq_true, not_true_eq_false, if_true, if_false, ite_true, ite_false, reduceIte, or_true, true_or, or_false, false_or, and_true, true_and, Bool.false_eq_true, reduceCtorEq]
  cases q : isIn v (nR (zI h 60)) with
  | false => simp only [t0_d, tk_d, t0_k, t0_l, t0_r, t0_60, tk_k, tk_l, tk_r, tk_60, hS_k, hS_l, hS_r, hS_60, one0, b2_t, b2_f, Bool.not_true, Bool.not_false, Bool.false_eq_true, gd_t, ob_s, ob2_s, ob4_s, sm_l, sm_r, ac_s, decide_true, decide_false, eq_self, ne_eq, not_false_eq_true, not_true_eq_false, if_true, if_false, ite_true, ite_false, reduceIte, or_true, true_or, or_false, false_or, and_true, true_and, Bool.false_eq_true, reduceCtorEq]
  | true =>
    obtain ⟨j, hj, rfl⟩ := isIn_of (by omega) q
    cases q2 : isIn w 7 with
    | false => simp only [m_thr1 (t0_s s), k59 s, r59_1 s, k60 s, l60 s, k0 s, r0_1 s, k3 s, r3_1 s, r3_2 s, r3_3 s, r3_4 s, r3_6 s, r3_7 s, r3_8 s, r3_9 s, r3_16 s, k4 s, k5 s, k6 s, k7 s, k8 s, k9 s, l4 s, l5 s, l6 s, l7 s, l8 s, l9 s, k11 s, r11_1 s, r11_2 s, r11_3 s, k12 s, k13 s, k14 s, l12 s, l13 s, l14 s, k15 s, r0_0 s, k1 s, t0_d, tk_d, t0_k, t0_l, t0_r, t0_60, tk_k, tk_l, tk_r, tk_60, hS_k, hS_l, hS_r, hS_60, one0, b2_t, b2_f, Bool.not_true, Bool.not_false, Bool.false_eq_true, gd_t, ob_s, ob2_s, ob4_s, sm_l, sm_r, ac_s, decide_true, decide_false, eq_self, ne_eq, not_false_eq_true, not_true_eq_false, if_true, if_false, ite_true, ite_false, reduceIte, or_true, true_or, or_false, false_or, and_true, true_and, Bool.false_eq_true, reduceCtorEq]
    | true =>
      have m5 := m_room5 (t0_s s) (t0_i i) (r := j) (by omega)
      have m6 := m_room6 (t0_s s) (t0_i i) (r := j) (by omega)
      rcases in7 q2 with rfl | rfl | rfl | rfl | rfl | rfl | rfl <;>
      simp +decide (disch := omega) only [m_thr0 (t0_s s), m_ofX (t0_s s), m_ofY (t0_s s), m_ofB (t0_s s), m_ofS (t0_s s), m_farOf, m5, m6, m_roomA (t0_s s) (t0_i i), m_roomB (t0_s s) (t0_i i), rooS, ncl, k59 s, r59_1 s, k60 s, l60 s, k0 s, r0_1 s, k3 s, r3_1 s, r3_2 s, r3_3 s, r3_4 s, r3_6 s, r3_7 s, r3_8 s, r3_9 s, r3_16 s, k4 s, k5 s, k6 s, k7 s, k8 s, k9 s, l4 s, l5 s, l6 s, l7 s, l8 s, l9 s, k11 s, r11_1 s, r11_2 s, r11_3 s, k12 s, k13 s, k14 s, l12 s, l13 s, l14 s, k15 s, r0_0 s, k1 s, t0_d, tk_d, t0_k, t0_l, t0_r, t0_60, tk_k, tk_l, tk_r, tk_60, hS_k, hS_l, hS_r, hS_60, one0, b2_t, b2_f, Bool.not_true, Bool.not_false, Bool.false_eq_true, gd_t, ob_s, ob2_s, ob4_s, sm_l, sm_r, ac_s, decide_true, decide_false, eq_self, ne_eq, not_false_eq_true, not_true_eq_false, if_true, if_false, ite_true, ite_false, reduceIte, or_true, true_or, or_false, false_or, and_true, true_and, Bool.false_eq_true, reduceCtorEq]
theorem j_room (g : GS h) (v w : Int32) : JB h (F_L_room 0 v w 72) (F_X12_room 59 v w) := by
  obtain ⟨s, i, c, -⟩ := id g
  have t6 := iT6 i
  have r8 := iR8 i
  have tv := tv11 s i c
  cases q : isIn v (nR (zI h 60)) with
  | false =>
    have e : F_X11_room 0 v w h = some (.inr 2, h, 1, 6) := by
      simp only [F_X11_room, F_X11_room_b0, x_hasRoom s i c, q, k59 s, r59_1 s, k60 s, l60 s, k0 s, r0_1 s, k3 s, r3_1 s, r3_2 s, r3_3 s, r3_4 s, r3_6 s, r3_7 s, r3_8 s, r3_9 s, r3_16 s, k4 s, k5 s, k6 s, k7 s, k8 s, k9 s, l4 s, l5 s, l6 s, l7 s, l8 s, l9 s, k11 s, r11_1 s, r11_2 s, r11_3 s, k12 s, k13 s, k14 s, l12 s, l13 s, l14 s, k15 s, r0_0 s, k1 s, t0_d, tk_d, t0_k, t0_l, t0_r, t0_60, tk_k, tk_l, tk_r, tk_60, hS_k, hS_l, hS_r, hS_60, one0, b2_t, b2_f, Bool.not_true, Bool.not_false, Bool.false_eq_true, gd_t, ob_s, ob2_s, ob4_s, sm_l, sm_r, ac_s, decide_true, decide_false, eq_self, ne_eq, not_false_eq_true, not_true_eq_false, if_true, if_false, ite_true, ite_false, reduceIte, or_true, true_or, or_false, false_or, and_true, true_and, Bool.false_eq_true, reduceCtorEq]
    refine JB_t g (k := 1) (by decide) ?_ ⟨0, zI (tk h 1), ?_, tk_m, tk_z⟩
    · unfold F_L_room; rw [gd_d (k0 s), e, ob4_s]; rfl
    · rw [m_room s i, q]
      rfl
  | true =>
    cases q2 : isIn w 7 with
    | false =>
      have e : F_X11_room 0 v w h = some (.inr 3, h, 1, 6) := by
        have n0 : (w = 0) = False := ne_isIn (j := 0) q2 (by omega) (by omega)
        have n1 : (w = 1) = False := ne_isIn (j := 1) q2 (by omega) (by omega)
        have n2 : (w = 2) = False := ne_isIn (j := 2) q2 (by omega) (by omega)
        have n3 : (w = 3) = False := ne_isIn (j := 3) q2 (by omega) (by omega)
        have n4 : (w = 4) = False := ne_isIn (j := 4) q2 (by omega) (by omega)
        have n5 : (w = 5) = False := ne_isIn (j := 5) q2 (by omega) (by omega)
        have n6 : (w = 6) = False := ne_isIn (j := 6) q2 (by omega) (by omega)
        simp only [F_X11_room, F_X11_room_b0, x_hasRoom s i c, q, n0, n1, n2, n3, n4, n5, n6, k59 s, r59_1 s, k60 s, l60 s, k0 s, r0_1 s, k3 s, r3_1 s, r3_2 s, r3_3 s, r3_4 s, r3_6 s, r3_7 s, r3_8 s, r3_9 s, r3_16 s, k4 s, k5 s, k6 s, k7 s, k8 s, k9 s, l4 s, l5 s, l6 s, l7 s, l8 s, l9 s, k11 s, r11_1 s, r11_2 s, r11_3 s, k12 s, k13 s, k14 s, l12 s, l13 s, l14 s, k15 s, r0_0 s, k1 s, t0_d, tk_d, t0_k, t0_l, t0_r, t0_60, tk_k, tk_l, tk_r, tk_60, hS_k, hS_l, hS_r, hS_60, one0, b2_t, b2_f, Bool.not_true, Bool.not_false, Bool.false_eq_true, gd_t, ob_s, ob2_s, ob4_s, sm_l, sm_r, ac_s, decide_true, decide_false, eq_self, ne_eq, not_false_eq_true, not_true_eq_false, if_true, if_false, ite_true, ite_false, reduceIte, or_true, true_or, or_false, false_or, and_true, true_and, Bool.false_eq_true, reduceCtorEq]
      refine JB_t g (k := 2) (by decide) ?_ ⟨0, zI (tk h 2), ?_, tk_m, tk_z⟩
      · unfold F_L_room; rw [gd_d (k0 s), e, ob4_s]; rfl
      · rw [m_room s i, q, q2]
        rfl
    | true =>
      obtain ⟨j, hj, rfl⟩ := isIn_of (by omega) q
      have e : F_X11_room 0 (nI j) w h = some (.inl (rooS (zI h 60) j w), h, 0, 0) := by
        obtain ⟨c1, c2, c3, c4⟩ := c.2.1 j (by omega)
        have d1 : zI h 4 j = zI h 60 (11 + 4 * j) := c1
        have d2 : zI h 5 j = zI h 60 (12 + 4 * j) := c2
        have d3 : zI h 6 j = zI h 60 (13 + 4 * j) := c3
        have d4 : zI h 7 j = zI h 60 (14 + 4 * j) := c4
        rcases in7 q2 with rfl | rfl | rfl | rfl | rfl | rfl | rfl <;>
        simp +decide (disch := omega) only [F_X11_room, F_X11_room_b0, x_hasRoom s i c, q, ix_t, ncl, d1, d2, d3, d4, x_farOf s c, x_headsIn s i c (k9 s) (l9 s) (seat9 i c), x_lyingIn i tv, rooS, k59 s, r59_1 s, k60 s, l60 s, k0 s, r0_1 s, k3 s, r3_1 s, r3_2 s, r3_3 s, r3_4 s, r3_6 s, r3_7 s, r3_8 s, r3_9 s, r3_16 s, k4 s, k5 s, k6 s, k7 s, k8 s, k9 s, l4 s, l5 s, l6 s, l7 s, l8 s, l9 s, k11 s, r11_1 s, r11_2 s, r11_3 s, k12 s, k13 s, k14 s, l12 s, l13 s, l14 s, k15 s, r0_0 s, k1 s, t0_d, tk_d, t0_k, t0_l, t0_r, t0_60, tk_k, tk_l, tk_r, tk_60, hS_k, hS_l, hS_r, hS_60, one0, b2_t, b2_f, Bool.not_true, Bool.not_false, Bool.false_eq_true, gd_t, ob_s, ob2_s, ob4_s, sm_l, sm_r, ac_s, decide_true, decide_false, eq_self, ne_eq, not_false_eq_true, not_true_eq_false, if_true, if_false, ite_true, ite_false, reduceIte, or_true, true_or, or_false, false_or, and_true, true_and, Bool.false_eq_true, reduceCtorEq]
      refine JB_r g (r := rooS (zI h 60) j w) ?_ ⟨zI (t0 h), ?_, t0_m, t0_z⟩
      · unfold F_L_room; rw [gd_d (k0 s), e, ob4_s]; exact put_out s _
      · refine (m_room (h := setL h 72 0 (rooS (zI h 60) j w).toInt64) s i (nI j) w).trans ?_
        show (if isIn (nI j) (nR (zI h 60)) then _ else _) = _
        rw [q, q2, nI_clamp (by omega)]
        rfl
end CALLS3
