/-! PURE ROWS about the decompiled functions: heaps, guards, loops -/
theorem zI_setI (h : Hp) (a k : Nat) (v : Int32) (b j : Nat) : zI (setI h a k v) b j = if b = a then (if j = k then v else zI h b j) else zI h b j := by
  by_cases hb : b = a
  · subst hb
    by_cases hj : j = k
    · subst hj
      simp [setI, zI, up2, va_up]
    · simp [setI, zI, up2, va_up, hj]
  · simp [setI, zI, up2, va_up, hb]
theorem zI_setA (h : Hp) (a : Nat) (f : Nat → Int32) (b : Nat) : zI (setA h a f) b = if b = a then f else zI h b := by
  by_cases hb : b = a
  · subst hb
    simp [setA, zI, va_up]
  · simp [setA, zI, va_up, hb]
theorem zI_setR (h : Hp) (a k : Nat) (v : Option Nat) : zI (setR h a k v) = zI h := rfl
theorem zI_setL (h : Hp) (a k : Nat) (v : Int64) : zI (setL h a k v) = zI h := rfl
theorem zR_setI (h : Hp) (a k : Nat) (v : Int32) : zR (setI h a k v) = zR h := rfl
theorem zR_setA (h : Hp) (a : Nat) (f : Nat → Int32) : zR (setA h a f) = zR h := rfl
theorem zR_setL (h : Hp) (a k : Nat) (v : Int64) : zR (setL h a k v) = zR h := rfl
theorem zR_setR (h : Hp) (a k : Nat) (v : Option Nat) (b j : Nat) : zR (setR h a k v) b j = if b = a then (if j = k then v else zR h b j) else zR h b j := by
  by_cases hb : b = a
  · subst hb
    by_cases hj : j = k
    · subst hj
      simp [setR, zR, up2, va_up]
    · simp [setR, zR, up2, va_up, hj]
  · simp [setR, zR, up2, va_up, hb]
theorem kd_setI (h : Hp) (a k : Nat) (v : Int32) (b : Nat) : kd (setI h a k v) b = kd h b := rfl
theorem kd_setA (h : Hp) (a : Nat) (f : Nat → Int32) (b : Nat) : kd (setA h a f) b = kd h b := rfl
theorem kd_setR (h : Hp) (a k : Nat) (v : Option Nat) (b : Nat) : kd (setR h a k v) b = kd h b := rfl
theorem kd_setL (h : Hp) (a k : Nat) (v : Int64) (b : Nat) : kd (setL h a k v) b = kd h b := rfl
theorem zl_setI (h : Hp) (a k : Nat) (v : Int32) (b : Nat) : zl (setI h a k v) b = zl h b := rfl
theorem zl_setA (h : Hp) (a : Nat) (f : Nat → Int32) (b : Nat) : zl (setA h a f) b = zl h b := rfl
theorem zl_setR (h : Hp) (a k : Nat) (v : Option Nat) (b : Nat) : zl (setR h a k v) b = zl h b := rfl
theorem zl_setL (h : Hp) (a k : Nat) (v : Int64) (b : Nat) : zl (setL h a k v) b = zl h b := rfl
theorem gd_t {α : Type} (k : Option α) : gd true k = k := rfl
theorem gd_p {α : Type} {b : Bool} (hb : b = true) (k : Option α) : gd b k = k := by rw [hb]; rfl
theorem gd_d {α : Type} {c : Prop} [Decidable c] (hc : c) (k : Option α) : gd (decide c) k = k := gd_p (decide_eq_true hc) k
theorem ob_s {α β : Type} (a : α) (f : α → Option β) : ob (some a) f = f a := rfl
theorem ob_p {α β : Type} {o : Option α} {a : α} (h : o = some a) (f : α → Option β) : ob o f = f a := by rw [h]; rfl
theorem ob2_s {α β γ : Type} (a : α) (b : β) (f : α → β → Option γ) : ob2 (some (a, b)) f = f a b := rfl
theorem ob2_p {α β γ : Type} {o : Option (α × β)} {a : α} {b : β} (h : o = some (a, b)) (f : α → β → Option γ) : ob2 o f = f a b := by rw [h]; rfl
theorem ob4_p {α β γ : Type} {o : Option (α × β × Nat × Nat)} {a : α} {b : β} {c s : Nat} (h : o = some (a, b, c, s)) (f : α → β → Nat → Nat → Option γ) : ob4 o f = f a b c s := by rw [h]; rfl
theorem ac_s {α β : Type} (c s c' s' : Nat) (x : α) (y : β) : ac c s (some (x, y, c', s')) = some (x, y, c' + c, s' + s) := rfl
theorem ix_n {i n : Nat} (h : i < n) (hn : n < 2 ^ 31) : ix (nI i) n = true := by
  unfold ix
  rw [nI_clamp (by omega)]
  simp [h, nI_pos (show i < 2 ^ 31 by omega)]
theorem ob4_s {α β γ : Type} (a : α) (b : β) (c s : Nat) (f : α → β → Nat → Nat → Option γ) : ob4 (some (a, b, c, s)) f = f a b c s := rfl
theorem sm_l {α β γ : Type} (a : α) (f : α → γ) (g : β → γ) : sm (.inl a) f g = f a := rfl
theorem sm_r {α β γ : Type} (b : β) (f : α → γ) (g : β → γ) : sm (.inr b) f g = g b := rfl
theorem dec_t {p : Prop} [Decidable p] (h : p) : decide p = true := decide_eq_true h
theorem nle_t {a b : Nat} (h : a ≤ b) (hb : b < 2147483648) : (nI a ≤ nI b) = True := eq_true (nI_le h hb)
theorem nle_f {a b : Nat} (h : b < a) (ha : a < 2147483648) : (nI a ≤ nI b) = False := eq_false (nI_ge h ha)
theorem nlt_t {a b : Nat} (h : a < b) (hb : b < 2147483648) : (nI a < nI b) = True := eq_true (nI_lt h hb)
theorem nlt_f {a b : Nat} (h : b ≤ a) (ha : a < 2147483648) : (nI a < nI b) = False := eq_false (nI_nlt h ha)
theorem neq_t {a b : Nat} (h : a = b) : (nI a = nI b) = True := eq_true (by rw [h])
theorem neq_f {a b : Nat} (h : a ≠ b) (ha : a < 2147483648) (hb : b < 2147483648) : (nI a = nI b) = False := eq_false (fun q => h ((nI_eq ha hb).mp q))
theorem nlt0 {a : Nat} (ha : a < 2147483648) : (nI a < 0) = False := eq_false (nI_pos ha)
theorem n0le {a : Nat} (ha : a < 2147483648) : (0 ≤ nI a) = True := eq_true (nI_pos' ha)
theorem ncl {a : Nat} (ha : a < 2147483648) : (nI a).toNatClampNeg = a := nI_clamp ha
theorem nmul (a b : Nat) : nI a * nI b = nI (a * b) := by
  show Int32.ofNat a * Int32.ofNat b = Int32.ofNat (a * b)
  exact (Int32.ofNat_mul a b).symm
theorem nadd (a b : Nat) : nI a + nI b = nI (a + b) := nI_add a b
theorem nsub {a b : Nat} (h : b ≤ a) : nI a - nI b = nI (a - b) := by
  have e : nI a = nI (a - b) + nI b := by rw [nI_add, Nat.sub_add_cancel h]
  rw [e]
  exact Int32.add_sub_cancel _ _
theorem nlit (n : Nat) : (OfNat.ofNat n : Int32) = nI n := rfl
theorem nlit0 : (0 : Int32) = nI 0 := rfl
theorem nlit1 : (1 : Int32) = nI 1 := rfl
theorem ix_t {i n : Nat} (h : i < n) (hn : n < 2147483648) : ix (nI i) n = true := by
  unfold ix
  rw [nI_clamp (by omega)]
  simp [h, nI_pos (show i < 2 ^ 31 by omega)]
/-- a heap with other ints -/
def wI (h : Hp) (I : Nat → Nat → Int32) : Hp := (zK h, I, zR h, zL h, zN h)
theorem wI_I (h : Hp) (I : Nat → Nat → Int32) : zI (wI h I) = I := rfl
theorem wI_R (h : Hp) (I : Nat → Nat → Int32) : zR (wI h I) = zR h := rfl
theorem wI_k (h : Hp) (I : Nat → Nat → Int32) (a : Nat) : kd (wI h I) a = kd h a := rfl
theorem wI_l (h : Hp) (I : Nat → Nat → Int32) (a : Nat) : zl (wI h I) a = zl h a := rfl
theorem wI_L (h : Hp) (I : Nat → Nat → Int32) : zL (wI h I) = zL h := rfl
theorem wI_N (h : Hp) (I : Nat → Nat → Int32) : zN (wI h I) = zN h := rfl
theorem wI_w (h : Hp) (I J : Nat → Nat → Int32) : wI (wI h I) J = wI h J := rfl
theorem wI_0 (h : Hp) : wI h (zI h) = h := rfl
theorem setI_w (h : Hp) (a k : Nat) (v : Int32) : setI h a k v = wI h (up2 (zI h) a k v) := rfl
theorem setA_w (h : Hp) (a : Nat) (f : Nat → Int32) : setA h a f = wI h (va_up (zI h) a f) := rfl
theorem up2_e {α : Type} (f : Nat → Nat → α) (a k : Nat) (v : α) : up2 f a k v a k = v := by simp [up2, va_up]
theorem up2_k {α : Type} (f : Nat → Nat → α) (a k j : Nat) (v : α) (h : j ≠ k) : up2 f a k v a j = f a j := by simp [up2, va_up, h]
theorem up2_a {α : Type} (f : Nat → Nat → α) (a k b : Nat) (v : α) (h : b ≠ a) : up2 f a k v b = f b := by simp [up2, va_up, h]
theorem va_e {α : Type} (f : Nat → α) (a : Nat) (v : α) : va_up f a v a = v := by simp [va_up]
theorem va_n {α : Type} (f : Nat → α) (a b : Nat) (v : α) (h : b ≠ a) : va_up f a v b = f b := by simp [va_up, h]
theorem FU_lt {n : Nat} (h : n < 1000000000) : n < FU := h
/-- a loop with a measure: it ends, and its end is as told -/
theorem iter_ex {S X : Type} {body : S → Option (S ⊕ X)} (I : Nat → S → Prop) (E : X → Prop) (hs : ∀ i s, I i s → (∃ x, body s = some (.inr x) ∧ E x) ∨ (∃ s' j, j < i ∧ body s = some (.inl s') ∧ I j s')) : ∀ n i s, i < n → I i s → ∃ x, iter body n s = some x ∧ E x
  | 0, _, _, h, _ => absurd h (Nat.not_lt_zero _)
  | n + 1, i, s, h, hI => by
    rcases hs i s hI with ⟨x, hb, hE⟩ | ⟨s', j, hj, hb, hI'⟩
    · refine ⟨x, ?_, hE⟩
      unfold iter
      rw [hb]
    · obtain ⟨x, hx, hE⟩ := iter_ex I E hs n j s' (by omega) hI'
      refine ⟨x, ?_, hE⟩
      unfold iter
      rw [hb]
      exact hx
/-- a loop that counts: its states are st 0, .., st n, and it leaves from st n -/
theorem iter_run {S X : Type} {body : S → Option (S ⊕ X)} (st : Nat → S) (n : Nat) (x : X) (hs : ∀ i, i < n → body (st i) = some (.inl (st (i + 1)))) (hx : body (st n) = some (.inr x)) {f : Nat} (hf : n < f) : iter body f (st 0) = some x := by
  obtain ⟨y, hy, hE⟩ := iter_ex (body := body) (fun i s => i ≤ n ∧ s = st (n - i)) (fun y => y = x) (fun i s hI => by
    obtain ⟨hi, rfl⟩ := hI
    cases i with
    | zero => exact Or.inl ⟨x, hx, rfl⟩
    | succ i => exact Or.inr ⟨st (n - i), i, Nat.lt_succ_self i, by rw [hs _ (by omega), show n - (i + 1) + 1 = n - i by omega], by omega, rfl⟩) f n (st 0) hf ⟨Nat.le_refl n, by rw [Nat.sub_self]⟩
  rw [hy, hE]
theorem iter_at {S X : Type} {body : S → Option (S ⊕ X)} {s0 : S} (st : Nat → S) (n : Nat) (x : X) (h0 : s0 = st 0) (hs : ∀ i, i < n → body (st i) = some (.inl (st (i + 1)))) (hx : body (st n) = some (.inr x)) {f : Nat} (hf : n < f) : iter body f s0 = some x := by
  rw [h0]
  exact iter_run st n x hs hx hf
theorem wv_n {h : Hp} {I : Nat → Nat → Int32} {a b : Nat} {F : Nat → Int32} (q : b ≠ a) : zI (wI h (va_up I a F)) b = I b := by
  rw [wI_I]
  exact va_n _ _ _ _ q
theorem wv_e {h : Hp} {I : Nat → Nat → Int32} {a : Nat} {F : Nat → Int32} : zI (wI h (va_up I a F)) a = F := by
  rw [wI_I]
  exact va_e _ _ _
theorem su_n {h : Hp} {a k b : Nat} {v : Int32} (q : b ≠ a) : zI (setI h a k v) b = zI h b := by
  rw [setI_w, wI_I]
  exact up2_a _ _ _ _ _ q
theorem su_k {h : Hp} {a k j : Nat} {v : Int32} (q : j ≠ k) : zI (setI h a k v) a j = zI h a j := by
  rw [setI_w, wI_I]
  exact up2_k _ _ _ _ _ q
theorem su_e {h : Hp} {a k : Nat} {v : Int32} : zI (setI h a k v) a k = v := by
  rw [setI_w, wI_I]
  exact up2_e _ _ _ _
/-- a + f 0 + f 1 .. + f (n - 1) -/
def accN (a : Int32) (f : Nat → Int32) : Nat → Int32
  | 0 => a
  | n + 1 => accN a f n + f n
theorem accN_congr {a : Int32} {f g : Nat → Int32} : ∀ {n : Nat}, (∀ i, i < n → f i = g i) → accN a f n = accN a g n
  | 0, _ => rfl
  | n + 1, h => by
    unfold accN
    rw [accN_congr (fun i hi => h i (by omega)), h n (by omega)]
theorem nl_0 : (0 : Int32) = nI 0 := rfl
theorem nl_1 : (1 : Int32) = nI 1 := rfl
theorem nl_2 : (2 : Int32) = nI 2 := rfl
theorem nl_3 : (3 : Int32) = nI 3 := rfl
theorem nl_4 : (4 : Int32) = nI 4 := rfl
theorem nl_5 : (5 : Int32) = nI 5 := rfl
theorem nl_6 : (6 : Int32) = nI 6 := rfl
theorem nl_7 : (7 : Int32) = nI 7 := rfl
theorem nl_8 : (8 : Int32) = nI 8 := rfl
theorem nl_9 : (9 : Int32) = nI 9 := rfl
theorem nl_10 : (10 : Int32) = nI 10 := rfl
theorem nl_11 : (11 : Int32) = nI 11 := rfl
theorem nl_12 : (12 : Int32) = nI 12 := rfl
theorem nl_13 : (13 : Int32) = nI 13 := rfl
theorem nl_14 : (14 : Int32) = nI 14 := rfl
theorem nl_15 : (15 : Int32) = nI 15 := rfl
theorem nl_16 : (16 : Int32) = nI 16 := rfl
theorem nl_17 : (17 : Int32) = nI 17 := rfl
theorem nl_19 : (19 : Int32) = nI 19 := rfl
theorem nl_20 : (20 : Int32) = nI 20 := rfl
theorem nl_24 : (24 : Int32) = nI 24 := rfl
theorem nl_30 : (30 : Int32) = nI 30 := rfl
theorem nl_31 : (31 : Int32) = nI 31 := rfl
theorem nl_32 : (32 : Int32) = nI 32 := rfl
theorem nl_40 : (40 : Int32) = nI 40 := rfl
theorem nl_41 : (41 : Int32) = nI 41 := rfl
theorem nl_43 : (43 : Int32) = nI 43 := rfl
theorem nl_48 : (48 : Int32) = nI 48 := rfl
theorem nl_53 : (53 : Int32) = nI 53 := rfl
theorem nl_56 : (56 : Int32) = nI 56 := rfl
theorem nl_57 : (57 : Int32) = nI 57 := rfl
theorem nl_59 : (59 : Int32) = nI 59 := rfl
theorem nl_60 : (60 : Int32) = nI 60 := rfl
theorem nl_62 : (62 : Int32) = nI 62 := rfl
theorem nl_63 : (63 : Int32) = nI 63 := rfl
theorem nl_64 : (64 : Int32) = nI 64 := rfl
theorem nl_71 : (71 : Int32) = nI 71 := rfl
theorem nl_97 : (97 : Int32) = nI 97 := rfl
theorem nl_122 : (122 : Int32) = nI 122 := rfl
theorem nl_131 : (131 : Int32) = nI 131 := rfl
theorem nl_147 : (147 : Int32) = nI 147 := rfl
theorem nl_200 : (200 : Int32) = nI 200 := rfl
theorem nl_300 : (300 : Int32) = nI 300 := rfl
theorem nl_400 : (400 : Int32) = nI 400 := rfl
theorem nl_500 : (500 : Int32) = nI 500 := rfl
theorem nl_512 : (512 : Int32) = nI 512 := rfl
theorem nl_817 : (817 : Int32) = nI 817 := rfl
theorem nl_999 : (999 : Int32) = nI 999 := rfl
theorem nl_1000 : (1000 : Int32) = nI 1000 := rfl
theorem nl_1280 : (1280 : Int32) = nI 1280 := rfl
theorem nl_2000 : (2000 : Int32) = nI 2000 := rfl
theorem nl_4232 : (4232 : Int32) = nI 4232 := rfl
theorem nl_4233 : (4233 : Int32) = nI 4233 := rfl
theorem nl_4234 : (4234 : Int32) = nI 4234 := rfl
theorem nl_4249 : (4249 : Int32) = nI 4249 := rfl
theorem nl_5049 : (5049 : Int32) = nI 5049 := rfl
theorem nl_9999 : (9999 : Int32) = nI 9999 := rfl
theorem nl_32767 : (32767 : Int32) = nI 32767 := rfl
theorem nl_32768 : (32768 : Int32) = nI 32768 := rfl
theorem nl_99999 : (99999 : Int32) = nI 99999 := rfl
theorem nl_1000000 : (1000000 : Int32) = nI 1000000 := rfl
