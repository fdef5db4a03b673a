/-! LISTS OF HITS; CALL: unnoticed -/
def cl (F : Nat → List Nat) : Nat → List Nat
  | 0 => []
  | n + 1 => cl F n ++ F n
theorem cl_s (F : Nat → List Nat) (n : Nat) : cl F (n + 1) = cl F n ++ F n := rfl
theorem cl_add (F : Nat → List Nat) (a : Nat) : ∀ b, cl F (a + b) = cl F a ++ cl (fun s => F (a + s)) b
  | 0 => by
    show cl F a = cl F a ++ []
    rw [List.append_nil]
  | b + 1 => by
    rw [← Nat.add_assoc, cl_s, cl_s, cl_add F a b, List.append_assoc]
theorem cl_nil {F : Nat → List Nat} : ∀ {n : Nat}, (∀ j, j < n → F j = []) → cl F n = []
  | 0, _ => rfl
  | n + 1, h => by rw [cl_s, cl_nil (fun j hj => h j (by omega)), h n (by omega), List.append_nil]
theorem cl_congr {F G : Nat → List Nat} : ∀ {n : Nat}, (∀ j, j < n → F j = G j) → cl F n = cl G n
  | 0, _ => rfl
  | n + 1, h => by rw [cl_s, cl_s, cl_congr (fun j hj => h j (by omega)), h n (by omega)]
theorem cl_mul (F : Nat → List Nat) : ∀ n, cl F (8 * n) = cl (fun r => cl (fun s => F (8 * r + s)) 8) n
  | 0 => rfl
  | n + 1 => by
    show cl F (8 * n + 8) = _
    rw [cl_add, cl_mul F n]
    rfl
theorem cl_cut {F : Nat → List Nat} {n m : Nat} (hm : n ≤ m) (h : ∀ j, n ≤ j → j < m → F j = []) : cl F m = cl F n := by
  obtain ⟨k, rfl⟩ : ∃ k, m = n + k := ⟨m - n, by omega⟩
  rw [cl_add, cl_nil (fun j hj => h (n + j) (by omega) (by omega)), List.append_nil]
theorem cl_mem {F : Nat → List Nat} {P : Nat → Prop} : ∀ {n : Nat}, (∀ j, j < n → ∀ x, x ∈ F j → P x) → ∀ x, x ∈ cl F n → P x
  | 0, _, x, h => by cases h
  | n + 1, h, x, hx => by
    rw [cl_s, List.mem_append] at hx
    rcases hx with hx | hx
    · exact cl_mem (fun j hj => h j (by omega)) x hx
    · exact h n (by omega) x hx
/-- a loop that leaves at the first hit -/
theorem iter_scan {S X : Type} {body : S → Option (S ⊕ X)} (st : Nat → S) (F : Nat → List Nat) (e : X) (Q : Nat → X → Prop) {fuel : Nat} : ∀ (n k : Nat), (∀ j, k ≤ j → j < n → (F j = [] ∧ body (st j) = some (.inl (st (j + 1)))) ∨ (∃ c t x, F j = c :: t ∧ body (st j) = some (.inr x) ∧ Q c x)) → body (st n) = some (.inr e) → k ≤ n → ∀ fuel, n - k < fuel → (cl (fun s => F (k + s)) (n - k) = [] ∧ iter body fuel (st k) = some e) ∨ (∃ c t x, cl (fun s => F (k + s)) (n - k) = c :: t ∧ iter body fuel (st k) = some x ∧ Q c x) := by
  intro n k hs hx hk
  obtain ⟨m, hm⟩ : ∃ m, n = k + m := ⟨n - k, by omega⟩
  subst hm
  rw [show k + m - k = m by omega]
  induction m generalizing k with
  | zero =>
    intro fuel hf
    left
    refine ⟨rfl, ?_⟩
    obtain ⟨f, rfl⟩ : ∃ f, fuel = f + 1 := ⟨fuel - 1, by omega⟩
    rw [Nat.add_zero] at hx
    unfold iter
    rw [hx]
  | succ m ih =>
    intro fuel hf
    obtain ⟨f, rfl⟩ : ∃ f, fuel = f + 1 := ⟨fuel - 1, by omega⟩
    have ec : cl (fun s => F (k + s)) (m + 1) = F k ++ cl (fun s => F (k + 1 + s)) m := by
      rw [Nat.add_comm m 1, cl_add]
      congr 1
      exact cl_congr (fun j _ => by rw [Nat.add_assoc])
    rcases hs k (Nat.le_refl _) (by omega) with ⟨q1, q2⟩ | ⟨c, t, x, q1, q2, q3⟩
    · have := ih (k + 1) (fun j h1 h2 => hs j (by omega) (by omega)) (by rw [show k + 1 + m = k + (m + 1) by omega]; exact hx) (by omega) f (by omega)
      rw [ec, q1, List.nil_append]
      unfold iter
      rw [q2]
      exact this
    · right
      refine ⟨c, t ++ cl (fun s => F (k + 1 + s)) m, x, ?_, ?_, q3⟩
      · rw [ec, q1]
        rfl
      · unfold iter
        rw [q2]
theorem iter_sc0 {S X : Type} {body : S → Option (S ⊕ X)} {s0 : S} (st : Nat → S) (F : Nat → List Nat) (e : X) (Q : Nat → X → Prop) (n : Nat) (h0 : s0 = st 0) (hs : ∀ j, j < n → (F j = [] ∧ body (st j) = some (.inl (st (j + 1)))) ∨ (∃ c t x, F j = c :: t ∧ body (st j) = some (.inr x) ∧ Q c x)) (hx : body (st n) = some (.inr e)) (hf : n < FU) : (cl F n = [] ∧ iter body FU s0 = some e) ∨ (∃ c t x, cl F n = c :: t ∧ iter body FU s0 = some x ∧ Q c x) := by
  have := iter_scan (body := body) (fuel := FU) st F e Q n 0 (fun j _ h2 => hs j h2) hx (Nat.zero_le _) FU hf
  rw [h0]
  have ez : cl (fun s => F (0 + s)) (n - 0) = cl F n := cl_congr (fun j _ => by rw [Nat.zero_add])
  rw [ez] at this
  exact this
def hdN : List Nat → Int32
  | [] => -1
  | x :: _ => nI x
theorem neg1_ne {x : Nat} (h : x < 2147483648) : ¬ nI x = -1 := by
  intro q
  rw [fa_eq, nI_toInt h] at q
  have : (-1 : Int32).toInt = -1 := rfl
  omega
theorem hdN_app {L : List Nat} (hl : ∀ x, x ∈ L → x < 2147483648) (y : Nat) : hdN (L ++ [y]) = if hdN L = -1 then nI y else hdN L := by
  cases L with
  | nil => rfl
  | cons a t =>
    show nI a = if nI a = -1 then nI y else nI a
    rw [if_neg (neg1_ne (hl a (List.mem_cons_self ..)))]
section UNN
variable {h : Hp}
def gnS (f : Nat → Int32) (b g r : Nat) : Int32 := f (43 + 2 * g) * (f (11 + 4 * r + b) - f (11 + 4 * sit f g + b))
def unS (f : Nat → Int32) (g k r s : Nat) : Bool := !(decide (r = sit f g) && decide (s = sit f k)) && (decide (gnS f 0 g r + gnS f 0 k s = 0) && decide (gnS f 1 g r + gnS f 1 k s = 0))
theorem x_gain {f : Nat → Int32} (s : Sh h) (i : Inv f) (c : HR (zI h) 3 f) {P b : Nat} (p : PL h P f b) {g r : Nat} (hg : g < nG f) (hr : r < 8) : F_X2_gain 3 (nI g) (nI r) P h = some (gnS f b g r) := by
  have g5 := iG5 i
  have r8 := iR8 i
  obtain ⟨p1, p2, p3⟩ := p
  obtain ⟨-, h1, h2⟩ := igs i g hg
  have c8 : zI h 8 g = f (43 + 2 * g) := (c.2.2.1 g (by omega)).1
  have c9 : zI h 9 g = nI (sit f g) := ((c.2.2.1 g (by omega)).2).trans h1
  simp (disch := omega) only [F_X2_gain, F_X2_gain_b0, ix_t, ncl, c8, c9, p1, p2, p3 r hr, p3 (sit f g) (by omega), gnS, k59 s, r59_1 s, k60 s, l60 s, k0 s, r0_1 s, k3 s, r3_1 s, r3_2 s, r3_3 s, r3_4 s, r3_6 s, r3_7 s, r3_8 s, r3_9 s, r3_16 s, k4 s, k5 s, k6 s, k7 s, k8 s, k9 s, l4 s, l5 s, l6 s, l7 s, l8 s, l9 s, k11 s, r11_1 s, r11_2 s, r11_3 s, k12 s, k13 s, k14 s, l12 s, l13 s, l14 s, k15 s, r0_0 s, k1 s, gd_t, ob_s, ob2_s, ob4_s, sm_l, sm_r, ac_s, decide_true, decide_false, eq_self, ne_eq, not_false_eq_true, not_true_eq_false, if_true, if_false, ite_true, ite_false, reduceIte, or_true, true_or, or_false, false_or, and_true, true_and, Bool.false_eq_true, reduceCtorEq]
theorem x_unn {f : Nat → Int32} (s : Sh h) (i : Inv f) (c : HR (zI h) 3 f) {g k r t : Nat} (hg : g < nG f) (hk : k < nG f) (hr : r < 8) (ht : t < 8) : F_X11_isUnnoticed 0 (nI g) (nI k) (nI r) (nI t) h = some (b2 (decide (t < nR f) && unS f g k r t)) := by
  have g5 := iG5 i
  have r8 := iR8 i
  obtain ⟨-, h1, h2⟩ := igs i g hg
  obtain ⟨-, h3, h4⟩ := igs i k hk
  have c9 : zI h 9 g = nI (sit f g) := ((c.2.2.1 g (by omega)).2).trans h1
  have c9' : zI h 9 k = nI (sit f k) := ((c.2.2.1 k (by omega)).2).trans h3
  have c0 : zI h 3 0 = nI (nR f) := c.1.1.trans (iR i)
  have e41 : F_X11_isUnnoticed_b41 0 (nI g) (nI k) (nI r) (nI t) h = some (b2 (decide (gnS f 0 g r + gnS f 0 k t = 0) && decide (gnS f 1 g r + gnS f 1 k t = 0))) := by
    simp only [F_X11_isUnnoticed_b41, F_X11_isUnnoticed_b119, F_X11_isUnnoticed_b120, z_g, o_g, x_gain s i c (pl4 s c) hg hr, x_gain s i c (pl4 s c) hk ht, x_gain s i c (pl5 s c) hg hr, x_gain s i c (pl5 s c) hk ht, k59 s, r59_1 s, k60 s, l60 s, k0 s, r0_1 s, k3 s, r3_1 s, r3_2 s, r3_3 s, r3_4 s, r3_6 s, r3_7 s, r3_8 s, r3_9 s, r3_16 s, k4 s, k5 s, k6 s, k7 s, k8 s, k9 s, l4 s, l5 s, l6 s, l7 s, l8 s, l9 s, k11 s, r11_1 s, r11_2 s, r11_3 s, k12 s, k13 s, k14 s, l12 s, l13 s, l14 s, k15 s, r0_0 s, k1 s, gd_t, ob_s, ob2_s, ob4_s, sm_l, sm_r, ac_s, decide_true, decide_false, eq_self, ne_eq, not_false_eq_true, not_true_eq_false, if_true, if_false, ite_true, ite_false, reduceIte, or_true, true_or, or_false, false_or, and_true, true_and, Bool.false_eq_true, reduceCtorEq]
    by_cases q1 : gnS f 0 g r + gnS f 0 k t = 0
    · by_cases q2 : gnS f 1 g r + gnS f 1 k t = 0
      · simp only [q1, q2, gd_t, ob_s, ob2_s, ob4_s, sm_l, sm_r, ac_s, decide_true, decide_false, eq_self, ne_eq, not_false_eq_true, not_true_eq_false, if_true, if_false, ite_true, ite_false, reduceIte, or_true, true_or, or_false, false_or, and_true, true_and, Bool.false_eq_true, reduceCtorEq, Bool.and_self, b2_t]
      · simp only [q1, q2, gd_t, ob_s, ob2_s, ob4_s, sm_l, sm_r, ac_s, decide_true, decide_false, eq_self, ne_eq, not_false_eq_true, not_true_eq_false, if_true, if_false, ite_true, ite_false, reduceIte, or_true, true_or, or_false, false_or, and_true, true_and, Bool.false_eq_true, reduceCtorEq, Bool.and_false, b2_f]
    · simp only [q1, gd_t, ob_s, ob2_s, ob4_s, sm_l, sm_r, ac_s, decide_true, decide_false, eq_self, ne_eq, not_false_eq_true, not_true_eq_false, if_true, if_false, ite_true, ite_false, reduceIte, or_true, true_or, or_false, false_or, and_true, true_and, Bool.false_eq_true, reduceCtorEq, Bool.false_and, b2_f]
  have n1 : (nI r = nI (sit f g)) = (r = sit f g) := propext (nI_eq (by omega) (by omega))
  have n2 : (nI t = nI (sit f k)) = (t = sit f k) := propext (nI_eq (by omega) (by omega))
  simp (disch := omega) only [F_X11_isUnnoticed, F_X11_isUnnoticed_b0, F_X11_isUnnoticed_b39, c0, ix_t, ncl, c9, c9', n1, n2, e41, k59 s, r59_1 s, k60 s, l60 s, k0 s, r0_1 s, k3 s, r3_1 s, r3_2 s, r3_3 s, r3_4 s, r3_6 s, r3_7 s, r3_8 s, r3_9 s, r3_16 s, k4 s, k5 s, k6 s, k7 s, k8 s, k9 s, l4 s, l5 s, l6 s, l7 s, l8 s, l9 s, k11 s, r11_1 s, r11_2 s, r11_3 s, k12 s, k13 s, k14 s, l12 s, l13 s, l14 s, k15 s, r0_0 s, k1 s, gd_t, ob_s, ob2_s, ob4_s, sm_l, sm_r, ac_s, decide_true, decide_false, eq_self, ne_eq, not_false_eq_true, not_true_eq_false, if_true, if_false, ite_true, ite_false, reduceIte, or_true, true_or, or_false, false_or, and_true, true_and, Bool.false_eq_true, reduceCtorEq]
  unfold unS
  by_cases q : t < nR f
  · rw [if_neg (nI_ge q (by omega))]
    by_cases q1 : r = sit f g
    · by_cases q2 : t = sit f k
      · simp only [q, q1, q2, h4, gd_t, ob_s, ob2_s, ob4_s, sm_l, sm_r, ac_s, decide_true, decide_false, eq_self, ne_eq, not_false_eq_true, not_true_eq_false, if_true, if_false, ite_true, ite_false, reduceIte, or_true, true_or, or_false, false_or, and_true, true_and, Bool.false_eq_true, reduceCtorEq, Bool.and_self, Bool.not_true, Bool.false_and, Bool.and_false, b2_f]
      · simp only [q, q1, q2, gd_t, ob_s, ob2_s, ob4_s, sm_l, sm_r, ac_s, decide_true, decide_false, eq_self, ne_eq, not_false_eq_true, not_true_eq_false, if_true, if_false, ite_true, ite_false, reduceIte, or_true, true_or, or_false, false_or, and_true, true_and, Bool.false_eq_true, reduceCtorEq, Bool.and_false, Bool.not_false, Bool.true_and]
    · simp only [q, q1, gd_t, ob_s, ob2_s, ob4_s, sm_l, sm_r, ac_s, decide_true, decide_false, eq_self, ne_eq, not_false_eq_true, not_true_eq_false, if_true, if_false, ite_true, ite_false, reduceIte, or_true, true_or, or_false, false_or, and_true, true_and, Bool.false_eq_true, reduceCtorEq, Bool.false_and, Bool.not_false, Bool.true_and]
  · rw [if_pos (nI_le (by omega) (by omega))]
    simp only [q, gd_t, ob_s, ob2_s, ob4_s, sm_l, sm_r, ac_s, decide_true, decide_false, eq_self, ne_eq, not_false_eq_true, not_true_eq_false, if_true, if_false, ite_true, ite_false, reduceIte, or_true, true_or, or_false, false_or, and_true, true_and, Bool.false_eq_true, reduceCtorEq, Bool.false_and, b2_f]
theorem m_unn (s : Sh h) (i : Inv (zI h 60)) {g k r t : Nat} (hg : g < nG (zI h 60)) (hk : k < nG (zI h 60)) (hr : r < 8) (ht : t < 8) : F_X12_isUnnoticed 59 (nI g) (nI k) (nI r) (nI t) h = some (b2 (unS (zI h 60) g k r t)) := by
  have g5 := iG5 i
  have r8 := iR8 i
  obtain ⟨-, h1, h2⟩ := igs i g hg
  obtain ⟨-, h3, h4⟩ := igs i k hk
  have n1 : (nI r = nI (sit (zI h 60) g)) = (r = sit (zI h 60) g) := propext (nI_eq (by omega) (by omega))
  have n2 : (nI t = nI (sit (zI h 60) k)) = (t = sit (zI h 60) k) := propext (nI_eq (by omega) (by omega))
  have st : ∀ b, b < 2 → ∀ w : Bool, F_X12_isUnnoticed_l27 59 (nI g) (nI k) (nI r) (nI t) (b2 w) (nI b) h = some (.inl (b2 (w && decide (gnS (zI h 60) b g r + gnS (zI h 60) b k t = 0)), nI (b + 1))) := by
    intro b hb w
    have e3 : (nI 1 < nI b) = False := nlt_f (by omega) (by omega)
    unfold F_X12_isUnnoticed_l27 F_X12_isUnnoticed_b97 F_X12_isUnnoticed_b98
    rw [nl_1, if_neg (by rw [e3]; exact id), nadd]
    cases w with
    | false => rfl
    | true =>
      rw [b2_t, if_neg (by decide), m_weightOf s (by omega), ob_s, gd_d (k59 s), m_ofRoom s (by omega) (by omega), ob_s, m_roomOf s (by omega), ob_s, h1, m_ofRoom s (by omega) (by omega), ob_s, m_weightOf s (by omega), ob_s, m_ofRoom s (by omega) (by omega), ob_s, m_roomOf s (by omega), ob_s, h3, m_ofRoom s (by omega) (by omega), ob_s]
      show (if gnS (zI h 60) b g r + gnS (zI h 60) b k t = 0 then _ else _) = _
      by_cases q : gnS (zI h 60) b g r + gnS (zI h 60) b k t = 0
      · rw [if_pos q, decide_eq_true q]; rfl
      · rw [if_neg q, decide_eq_false q]; rfl
  have e21 : F_X12_isUnnoticed_b21 59 (nI g) (nI k) (nI r) (nI t) h = some (b2 (decide (gnS (zI h 60) 0 g r + gnS (zI h 60) 0 k t = 0) && decide (gnS (zI h 60) 1 g r + gnS (zI h 60) 1 k t = 0))) := by
    unfold F_X12_isUnnoticed_b21
    refine (ob_p (iter_at (fun b => (b2 (if b = 0 then true else if b = 1 then decide (gnS (zI h 60) 0 g r + gnS (zI h 60) 0 k t = 0) else (decide (gnS (zI h 60) 0 g r + gnS (zI h 60) 0 k t = 0) && decide (gnS (zI h 60) 1 g r + gnS (zI h 60) 1 k t = 0))), nI b)) 2 (b2 (decide (gnS (zI h 60) 0 g r + gnS (zI h 60) 0 k t = 0) && decide (gnS (zI h 60) 1 g r + gnS (zI h 60) 1 k t = 0))) rfl (fun b hb => ?_) ?_ (FU_lt (by omega))) _).trans (b2_g _ _)
    · have : b = 0 ∨ b = 1 := by omega
      rcases this with rfl | rfl
      · exact st 0 (by omega) true
      · exact st 1 (by omega) _
    · show F_X12_isUnnoticed_l27 59 (nI g) (nI k) (nI r) (nI t) (b2 _) (nI 2) h = _
      unfold F_X12_isUnnoticed_l27
      rw [if_pos (by decide)]
      rfl
  unfold F_X12_isUnnoticed F_X12_isUnnoticed_b0
  rw [m_roomOf s (by omega), ob_s, gd_d (k59 s), h1, m_roomOf s (by omega), h3, e21]
  unfold unS
  by_cases q1 : r = sit (zI h 60) g
  · rw [if_pos (by rw [q1]), ob_s]
    by_cases q2 : t = sit (zI h 60) k
    · rw [if_pos (by rw [q2]), decide_eq_true q1, decide_eq_true q2]
      rfl
    · rw [if_neg (by rw [n2]; exact q2), decide_eq_false q2, Bool.and_false, Bool.not_false, Bool.true_and]
  · rw [if_neg (by rw [n1]; exact q1), decide_eq_false q1, Bool.false_and, Bool.not_false, Bool.true_and]
end UNN
