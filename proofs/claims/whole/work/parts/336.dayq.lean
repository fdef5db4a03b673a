/-! A DAY: both sides alike; the class's pass -/
section DAYQ
variable {h : Hp} {f : Nat → Int32}
def dyA (f : Nat → Int32) (z y : DS) : Prop := (∀ g, g < nG f → z.1 g = y.1 g) ∧ z.2.1 = y.2.1 ∧ (∀ t, t < 6 → z.2.2.1 t = y.2.2.1 t) ∧ z.2.2.2.1 = y.2.2.2.1 ∧ z.2.2.2.2 = y.2.2.2.2
theorem net_cg {b : Nat} {S R : Nat → Int32} (e : ∀ g, g < nG f → S g = R g) : netS f b (cf S) = netS f b (cf R) := by
  unfold netS gst
  congr 1
  exact accN_congr (fun g hg => by
    have : cf S g = cf R g := by unfold cf; rw [e g hg]
    rw [this])
theorem lev_cg (i : Inv f) {x y : Int32} {T U : Nat → Int32} (e : ∀ t, t < 6 → T t = U t) : levS f x y (cf T) = levS f x y (cf U) := by
  have t6 := iT6 i
  have c : ∀ t, t < 6 → cf T t = cf U t := fun t ht => by unfold cf; rw [e t ht]
  have e1 : ∀ b, lowS f b (cf T) = lowS f b (cf U) := fun b => accN_congr (fun k hk => by rw [c k (by omega)])
  have e2 : ∀ b, higS f b (cf T) = higS f b (cf U) := fun b => accN_congr (fun k hk => by rw [c k (by omega)])
  unfold levS lev1
  rw [e1, e1, e2, e2]
theorem sl_cg (i : Inv f) {b : Nat} {d : Int} {T U : Nat → Int32} (e : ∀ t, t < 6 → T t = U t) : (∀ t, t < 6 → (slS f b d T).1 t = (slS f b d U).1 t) ∧ (slS f b d T).2 = (slS f b d U).2 := by
  have t6 := iT6 i
  have key := foldN_rel (u := slU f b d) (v := slU f b d) (fun _ (z y : (Nat → Int32) × Nat) => (∀ t, t < 6 → z.1 t = y.1 t) ∧ z.2 = y.2) (n := nT f) (a := (T, 0)) (b := (U, 0)) ⟨e, rfl⟩ (fun j z y hj hr => by
    have c : cf z.1 j = cf y.1 j := by unfold cf; rw [hr.1 j (by omega)]
    unfold slU
    rw [c]
    by_cases q : nxS f b d (cf y.1 j) = -1
    · rw [if_pos q, if_pos q]
      exact hr
    · rw [if_neg q, if_neg q]
      refine ⟨fun t ht => ?_, by show z.2 + 1 = y.2 + 1; rw [hr.2]⟩
      show va_up z.1 j _ t = va_up y.1 j _ t
      by_cases w : t = j
      · subst w
        rw [va_e, va_e]
      · rw [va_n _ _ _ _ w, va_n _ _ _ _ w]
        exact hr.1 t ht)
  exact key (nT f) (Nat.le_refl _)
theorem wk_cg (i : Inv f) (m : Nat) : ∀ (n : Nat) (z y : (Nat → Int32) × Nat), (∀ g, g < nG f → z.1 g = y.1 g) → z.2 = y.2 → (∀ g, g < nG f → (wkS f m n z).1 g = (wkS f m n y).1 g) ∧ (wkS f m n z).2 = (wkS f m n y).2
  | 0, z, y, h1, h2 => ⟨h1, h2⟩
  | n + 1, z, y, h1, h2 => by
    unfold wkS
    rw [h2]
    by_cases c : y.2 < nB f ∧ f (71 + 3 * y.2) = nI m
    · rw [if_pos c, if_pos c]
      refine wk_cg i m n _ _ (fun g hg => ?_) rfl
      show va_up z.1 _ _ g = va_up y.1 _ _ g
      by_cases w : g = (f (72 + 3 * y.2)).toNatClampNeg
      · subst w
        rw [va_e, va_e]
      · rw [va_n _ _ _ _ w, va_n _ _ _ _ w]
        exact h1 g hg
    · rw [if_neg c, if_neg c]
      exact ⟨h1, h2⟩
theorem mnU_cg (i : Inv f) {m : Nat} {z y : DS} (a : dyA f z y) : dyA f (mnU f m z) (mnU f m y) := by
  obtain ⟨a1, a2, a3, a4, a5⟩ := a
  obtain ⟨w1, w2⟩ := wk_cg i m 21 (z.1, z.2.1) (y.1, y.2.1) a1 a2
  have e1 : mnT1 f (wkS f m 21 (z.1, z.2.1)).1 z.2.2.1 = slS f 0 (dirS (netS f 0 (cf (wkS f m 21 (y.1, y.2.1)).1)) (f 9)) z.2.2.1 := by
    unfold mnT1
    rw [net_cg w1]
  have k1 := sl_cg i (b := 0) (d := dirS (netS f 0 (cf (wkS f m 21 (y.1, y.2.1)).1)) (f 9)) a3
  have k1' : (∀ t, t < 6 → (mnT1 f (wkS f m 21 (z.1, z.2.1)).1 z.2.2.1).1 t = (mnT1 f (wkS f m 21 (y.1, y.2.1)).1 y.2.2.1).1 t) ∧ (mnT1 f (wkS f m 21 (z.1, z.2.1)).1 z.2.2.1).2 = (mnT1 f (wkS f m 21 (y.1, y.2.1)).1 y.2.2.1).2 := by
    rw [e1]
    exact k1
  have k2 := sl_cg i (b := 1) (d := dirS (netS f 1 (cf (wkS f m 21 (y.1, y.2.1)).1)) (f 9)) k1'.1
  have k2' : (∀ t, t < 6 → (mnT2 f (wkS f m 21 (z.1, z.2.1)).1 z.2.2.1).1 t = (mnT2 f (wkS f m 21 (y.1, y.2.1)).1 y.2.2.1).1 t) ∧ (mnT2 f (wkS f m 21 (z.1, z.2.1)).1 z.2.2.1).2 = (mnT2 f (wkS f m 21 (y.1, y.2.1)).1 y.2.2.1).2 := by
    have e2 : mnT2 f (wkS f m 21 (z.1, z.2.1)).1 z.2.2.1 = slS f 1 (dirS (netS f 1 (cf (wkS f m 21 (y.1, y.2.1)).1)) (f 9)) (mnT1 f (wkS f m 21 (z.1, z.2.1)).1 z.2.2.1).1 := by
      unfold mnT2
      rw [net_cg w1]
    rw [e2]
    exact k2
  have lv : mnL f (wkS f m 21 (z.1, z.2.1)).1 (mnT2 f (wkS f m 21 (z.1, z.2.1)).1 z.2.2.1).1 = mnL f (wkS f m 21 (y.1, y.2.1)).1 (mnT2 f (wkS f m 21 (y.1, y.2.1)).1 y.2.2.1).1 := by
    unfold mnL
    rw [net_cg (b := 0) w1, net_cg (b := 1) w1]
    exact lev_cg i k2'.1
  refine ⟨w1, w2, k2'.1, ?_, ?_⟩
  · show z.2.2.2.1 + ((mnT1 f (wkS f m 21 (z.1, z.2.1)).1 z.2.2.1).2 + (mnT2 f (wkS f m 21 (z.1, z.2.1)).1 z.2.2.1).2) = y.2.2.2.1 + ((mnT1 f (wkS f m 21 (y.1, y.2.1)).1 y.2.2.1).2 + (mnT2 f (wkS f m 21 (y.1, y.2.1)).1 y.2.2.1).2)
    rw [a4, k1'.2, k2'.2]
  · show (if z.2.2.2.2 = -1 ∧ mnL f (wkS f m 21 (z.1, z.2.1)).1 (mnT2 f (wkS f m 21 (z.1, z.2.1)).1 z.2.2.1).1 = false then nI m else z.2.2.2.2) = (if y.2.2.2.2 = -1 ∧ mnL f (wkS f m 21 (y.1, y.2.1)).1 (mnT2 f (wkS f m 21 (y.1, y.2.1)).1 y.2.2.1).1 = false then nI m else y.2.2.2.2)
    rw [lv, a5]
theorem dy_cg (i : Inv f) {S R T U : Nat → Int32} (e1 : ∀ g, g < nG f → S g = R g) (e2 : ∀ t, t < 6 → T t = U t) : dyA f (dyR f S T 1000) (dyR f R U 1000) := by
  have key : ∀ m, m ≤ 1000 → dyA f (dyR f S T m) (dyR f R U m) := by
    intro m
    induction m with
    | zero => intro _; exact ⟨e1, rfl, e2, rfl, rfl⟩
    | succ m ih => intro hm; exact mnU_cg i (ih (by omega))
  exact key 1000 (Nat.le_refl _)
theorem day_cg (i : Inv f) {z y : DS} (a : dyA f z y) (w : Int32) : dayS f z w = dayS f y w := by
  obtain ⟨a1, a2, a3, a4, a5⟩ := a
  unfold dayS
  rw [a4, a5, a3 0 (by omega), numS_congr (s := cf z.1) (t := cf y.1) (fun g hg => by unfold cf; rw [a1 g hg])]
-- copies
def TSh (h : Hp) (A : Nat) : Prop := kd h A = 7 ∧ zR h A 1 = some (A + 1) ∧ zR h A 2 = some (A + 2) ∧ zR h A 3 = some (A + 3) ∧ kd h (A + 1) = 13 ∧ kd h (A + 2) = 13 ∧ kd h (A + 3) = 13 ∧ zl h (A + 1) = 6 ∧ zl h (A + 2) = 6 ∧ zl h (A + 3) = 6
def cpJ (I : Nat → Nat → Int32) (A B : Nat) : Nat → Nat → Int32 := va_up (va_up (va_up (up2 I A 0 (I B 0)) (A + 1) (va_cpy (I (B + 1)) (I (A + 1)) 0 0 6)) (A + 2) (va_cpy (I (B + 2)) (I (A + 2)) 0 0 6)) (A + 3) (va_cpy (I (B + 3)) (I (A + 3)) 0 0 6)
theorem cpk6 : cpk (0 : Int32) (0 : Int32) (6 : Int32) 6 6 = true := by decide
theorem cpk5 : cpk (0 : Int32) (0 : Int32) (5 : Int32) 5 5 = true := by decide
theorem cpA_w {a b : Nat} {sp dp n : Int32} {x y z : Nat} (e1 : sp.toNatClampNeg = x) (e2 : dp.toNatClampNeg = y) (e3 : n.toNatClampNeg = z) : cpA h a sp b dp n = wI h (va_up (zI h) b (va_cpy (zI h a) (zI h b) x y z)) := by
  unfold cpA
  rw [e1, e2, e3]
  rfl
theorem x_copyT {A B : Nat} (a : TSh h A) (b : TSh h B) (d : A + 4 ≤ B ∨ B + 4 ≤ A) : F_X8_copyFrom A B h = some ((), wI h (cpJ (zI h) A B)) := by
  obtain ⟨a0, a1, a2, a3, a4, a5, a6, a7, a8, a9⟩ := a
  obtain ⟨b0, b1, b2, b3, b4, b5, b6, b7, b8, b9⟩ := b
  have z0 : (0 : Int32).toNatClampNeg = 0 := by decide
  have z6 : (6 : Int32).toNatClampNeg = 6 := by decide
  have e1 : cpA (setI h A 0 (zI h B 0)) (B + 1) 0 (A + 1) 0 6 = wI h (va_up (up2 (zI h) A 0 (zI h B 0)) (A + 1) (va_cpy (zI h (B + 1)) (zI h (A + 1)) 0 0 6)) := by
    rw [cpA_w z0 z0 z6, setI_w, wI_I, wI_w, up2_a _ _ _ _ _ (by omega), up2_a _ _ _ _ _ (by omega)]
  have e2 : cpA (wI h (va_up (up2 (zI h) A 0 (zI h B 0)) (A + 1) (va_cpy (zI h (B + 1)) (zI h (A + 1)) 0 0 6))) (B + 2) 0 (A + 2) 0 6 = wI h (va_up (va_up (up2 (zI h) A 0 (zI h B 0)) (A + 1) (va_cpy (zI h (B + 1)) (zI h (A + 1)) 0 0 6)) (A + 2) (va_cpy (zI h (B + 2)) (zI h (A + 2)) 0 0 6)) := by
    rw [cpA_w z0 z0 z6, wI_I, wI_w, va_n _ (A + 1) (B + 2) _ (by omega), va_n _ (A + 1) (A + 2) _ (by omega), up2_a _ _ _ _ _ (by omega), up2_a _ _ _ _ _ (by omega)]
  have e3 : cpA (wI h (va_up (va_up (up2 (zI h) A 0 (zI h B 0)) (A + 1) (va_cpy (zI h (B + 1)) (zI h (A + 1)) 0 0 6)) (A + 2) (va_cpy (zI h (B + 2)) (zI h (A + 2)) 0 0 6))) (B + 3) 0 (A + 3) 0 6 = wI h (cpJ (zI h) A B) := by
    rw [cpA_w z0 z0 z6, wI_I, wI_w, va_n _ (A + 2) (B + 3) _ (by omega), va_n _ (A + 1) (B + 3) _ (by omega), va_n _ (A + 2) (A + 3) _ (by omega), va_n _ (A + 1) (A + 3) _ (by omega), up2_a _ _ _ _ _ (by omega), up2_a _ _ _ _ _ (by omega)]
    rfl
  unfold F_X8_copyFrom F_X8_copyFrom_b0
  rw [gd_d b0, gd_d a0, zR_setI, b1, ob_s, a1, ob_s, kd_setI, gd_d b4, kd_setI, gd_d a4, zl_setI, zl_setI, b7, a7, cpk6, gd_t, e1, wI_R, b2, ob_s, a2, ob_s, wI_k, gd_d b5, wI_k, gd_d a5, wI_l, wI_l, b8, a8, cpk6, gd_t, e2, ob_s, wI_R, b3, ob_s, a3, ob_s, wI_k, gd_d b6, wI_k, gd_d a6, wI_l, wI_l, b9, a9, cpk6, gd_t, e3]
end DAYQ
