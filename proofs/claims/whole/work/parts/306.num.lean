/-! SEATINGS AS NUMBERS, HEADS, COPIES -/
def numS (s : Nat → Nat) : Nat → Nat
  | 0 => 0
  | n + 1 => numS s n + s n * 8 ^ n
theorem numS_s (s : Nat → Nat) (n : Nat) : numS s (n + 1) = numS s n + s n * 8 ^ n := rfl
theorem numS_lt {s : Nat → Nat} : ∀ {n : Nat}, (∀ g, g < n → s g < 8) → numS s n < 8 ^ n
  | 0, _ => by simp [numS]
  | n + 1, h => by
    have h1 := numS_lt (s := s) (n := n) (fun g hg => h g (by omega))
    have h2 : s n * 8 ^ n ≤ 7 * 8 ^ n := Nat.mul_le_mul_right _ (by have := h n (by omega); omega)
    unfold numS
    rw [Nat.pow_succ]
    omega
theorem numS_congr {s t : Nat → Nat} : ∀ {n : Nat}, (∀ g, g < n → s g = t g) → numS s n = numS t n
  | 0, _ => rfl
  | n + 1, h => by
    unfold numS
    rw [numS_congr (fun g hg => h g (by omega)), h n (by omega)]
def tol (s : Nat → Nat) (n : Nat) : Nat → Nat
  | 0 => 0
  | j + 1 => 8 * tol s n j + s (n - j - 1)
theorem tol_num (s : Nat → Nat) (n : Nat) : ∀ j, j ≤ n → tol s n j * 8 ^ (n - j) + numS s (n - j) = numS s n
  | 0, _ => by simp [tol]
  | j + 1, h => by
    have ih := tol_num s n j (by omega)
    obtain ⟨m, hm⟩ : ∃ m, n - j = m + 1 := ⟨n - j - 1, by omega⟩
    rw [show n - (j + 1) = m by omega]
    rw [hm, numS_s] at ih
    unfold tol
    rw [show n - j - 1 = m by omega]
    rw [Nat.pow_succ] at ih
    rw [← ih, Nat.add_mul]
    have : 8 * tol s n j * 8 ^ m = tol s n j * (8 ^ m * 8) := by
      rw [Nat.mul_comm 8, Nat.mul_assoc, Nat.mul_comm 8]
    omega
theorem pow8 {n : Nat} (h : n ≤ 5) : 8 ^ n ≤ 32768 := by
  have : 8 ^ n ≤ 8 ^ 5 := Nat.pow_le_pow_right (by omega) h
  omega
theorem tol_le (s : Nat → Nat) (n j : Nat) (h : j ≤ n) (hs : ∀ g, g < n → s g < 8) (hn : n ≤ 5) : tol s n j < 32768 := by
  have h1 := tol_num s n j h
  have h2 := numS_lt hs
  have h3 := pow8 hn
  have h4 : tol s n j * 1 ≤ tol s n j * 8 ^ (n - j) := Nat.mul_le_mul_left _ (Nat.pow_pos (by decide))
  omega
theorem shl3 {j v : Nat} (hj : j < 5) (hv : v < 8) : nI v <<< (((3 : Int32) * nI j) &&& 31) = nI (v * 8 ^ j) := by
  have : j = 0 ∨ j = 1 ∨ j = 2 ∨ j = 3 ∨ j = 4 := by omega
  rcases this with rfl | rfl | rfl | rfl | rfl
  · exact pk_shlN _ 0 (by decide) (by omega)
  · exact pk_shlN _ 3 (by decide) (by omega)
  · exact pk_shlN _ 6 (by decide) (by omega)
  · exact pk_shlN _ 9 (by decide) (by omega)
  · exact pk_shlN _ 12 (by decide) (by omega)
/-- how many of n sit in r -/
def hdS (s : Nat → Nat) (n r : Nat) : Nat := fb_ct (fun g => decide (s g = r)) n
def fillF (a b : Nat → Int32) (j : Nat) : Nat → Int32 := fun k => if k < j then a k else b k
theorem fill_0 (a b : Nat → Int32) : fillF a b 0 = b := by
  funext k
  simp [fillF]
theorem fill_in {a b : Nat → Int32} {j k : Nat} (h : k < j) : fillF a b j k = a k := by simp [fillF, h]
theorem fill_out {a b : Nat → Int32} {j k : Nat} (h : j ≤ k) : fillF a b j k = b k := by
  unfold fillF
  rw [if_neg (by omega)]
theorem up2_fill (I : Nat → Nat → Int32) (q : Nat) (a b : Nat → Int32) (j : Nat) : up2 (va_up I q (fillF a b j)) q j (a j) = va_up I q (fillF a b (j + 1)) := by
  funext p k
  by_cases hp : p = q
  · subst hp
    rw [va_e]
    by_cases hk : k = j
    · subst hk
      rw [up2_e, fill_in (by omega)]
    · rw [up2_k _ _ _ _ _ hk, va_e]
      unfold fillF
      by_cases h1 : k < j
      · rw [if_pos h1, if_pos (by omega)]
      · rw [if_neg h1, if_neg (by omega)]
  · rw [up2_a _ _ _ _ _ hp, va_n _ _ _ _ hp, va_n _ _ _ _ hp]
theorem va_same {α : Type} (I : Nat → α) (q : Nat) : va_up I q (I q) = I := by
  funext p
  by_cases hp : p = q
  · subst hp
    rw [va_e]
  · rw [va_n _ _ _ _ hp]
section NUM
variable {h : Hp} {f : Nat → Int32}
theorem m_told (s : Sh h) (i : Inv (zI h 60)) {sf : Nat → Nat} (hs : seated h 66 (nG (zI h 60)) sf) : F_X12_told 59 h = some (nI (numS sf (nG (zI h 60)))) := by
  unfold F_X12_told F_X12_told_b0
  have hn := i.2.1.2
  have e0 := i.2.1.1
  rw [m_guests s, ob_s, gd_d (k59 s), e0]
  have hl : ∀ j, j ≤ nG (zI h 60) → tol sf (nG (zI h 60)) j < 32768 := fun j hj => tol_le sf _ j hj (fun g hg => (hs g hg).2) hn
  refine (ob_p (iter_run (fun j => (nI (tol sf (nG (zI h 60)) j), nI (nG (zI h 60) - j) - 1)) (nG (zI h 60)) (nI (tol sf (nG (zI h 60)) (nG (zI h 60)))) (fun j hj => ?_) ?_ (FU_lt (by omega))) _).trans ?_
  · show F_X12_told_l9 59 (nI (tol sf (nG (zI h 60)) j)) (nI (nG (zI h 60) - j) - 1) h = _
    unfold F_X12_told_l9
    obtain ⟨m, hm⟩ : ∃ m, nG (zI h 60) - j = m + 1 := ⟨nG (zI h 60) - j - 1, by omega⟩
    obtain ⟨h1, h2⟩ := hs m (by omega)
    rw [hm, nI_pred, if_neg (nI_pos (by omega)), gd_d (k59 s), r59_15 s, ob_s, gd_d (k66 s), l66 s, ix_t (by omega) (by omega), gd_t, ncl (by omega), h1, nl_8, nmul, nadd]
    rw [show nG (zI h 60) - (j + 1) = m by omega]
    have e9 : tol sf (nG (zI h 60)) (j + 1) = 8 * tol sf (nG (zI h 60)) j + sf m := by
      show 8 * tol sf (nG (zI h 60)) j + sf (nG (zI h 60) - j - 1) = _
      rw [show nG (zI h 60) - j - 1 = m by omega]
    rw [e9, Int32.sub_eq_add_neg]
  · show F_X12_told_l9 59 (nI (tol sf (nG (zI h 60)) (nG (zI h 60)))) (nI (nG (zI h 60) - nG (zI h 60)) - 1) h = _
    unfold F_X12_told_l9
    rw [Nat.sub_self, if_pos (by decide)]
  · have := tol_num sf (nG (zI h 60)) (nG (zI h 60)) (Nat.le_refl _)
    rw [Nat.sub_self] at this
    simp only [Nat.pow_zero, Nat.mul_one, numS, Nat.add_zero] at this
    rw [this]
theorem x_asNumber (s : Sh h) (i : Inv f) (c : HR (zI h) 3 f) {Q : Nat} (hk : kd h Q = 13) (hl : zl h Q = 5) {sf : Nat → Nat} (hs : seated h Q (nG f) sf) : F_X2_asNumber 3 Q h = some (nI (numS sf (nG f))) := by
  unfold F_X2_asNumber F_X2_asNumber_b0
  have hn := i.2.1.2
  refine ob_p (iter_run (fun j => (nI (numS sf j), nI j)) (nG f) _ (fun j hj => ?_) ?_ (FU_lt (by omega))) _
  · show F_X2_asNumber_l4 3 Q (nI (numS sf j)) (nI j) h = _
    unfold F_X2_asNumber_l4
    obtain ⟨h1, h2⟩ := hs j hj
    rw [gd_d (k3 s), c.1.2.1, i.2.1.1, if_neg (nI_ge hj (by omega)), gd_d hk, hl, ix_t (by omega) (by omega), gd_t, ncl (by omega), h1, shl3 (by omega) h2, nadd, nI_1]
    rfl
  · show F_X2_asNumber_l4 3 Q (nI (numS sf (nG f))) (nI (nG f)) h = _
    unfold F_X2_asNumber_l4
    rw [gd_d (k3 s), c.1.2.1, ← i.2.1.1, if_pos (Int32.le_refl _)]
theorem ct_suc (p : Nat → Bool) (n : Nat) : fb_ct p (n + 1) = fb_ct p n + (if p n then 1 else 0) := rfl
theorem m_headsIn (s : Sh h) (i : Inv (zI h 60)) {sf : Nat → Nat} (hs : seated h 66 (nG (zI h 60)) sf) {r : Nat} (hr : r < 2147483648) : F_X12_headsIn 59 (nI r) h = some (nI (hdS sf (nG (zI h 60)) r)) := by
  unfold F_X12_headsIn F_X12_headsIn_b0
  have hn := i.2.1.2
  have e0 := i.2.1.1
  refine ob_p (iter_run (fun j => (nI (hdS sf j r), nI j)) (nG (zI h 60)) _ (fun j hj => ?_) ?_ (FU_lt (by omega))) _
  · show F_X12_headsIn_l4 59 (nI r) (nI (hdS sf j r)) (nI j) h = _
    unfold F_X12_headsIn_l4 F_X12_headsIn_b28
    obtain ⟨h1, h2⟩ := hs j hj
    rw [m_guests s, ob_s, gd_d (k59 s), e0, if_neg (nI_ge hj (by omega)), r59_15 s, ob_s, gd_d (k66 s), l66 s, ix_t (by omega) (by omega), gd_t, ncl (by omega), h1, nl_1, nl_0, nadd, nadd, nadd]
    unfold hdS
    rw [ct_suc]
    by_cases q : sf j = r
    · rw [if_pos (by rw [q]), if_pos (decide_eq_true q)]
    · rw [if_neg (fun z => q ((nI_eq (by omega) hr).mp z)), if_neg (by simp [q])]
  · show F_X12_headsIn_l4 59 (nI r) (nI (hdS sf (nG (zI h 60)) r)) (nI (nG (zI h 60))) h = _
    unfold F_X12_headsIn_l4
    rw [m_guests s, ob_s, gd_d (k59 s), ← e0, if_pos (Int32.le_refl _)]
theorem x_headsIn (s : Sh h) (i : Inv f) (c : HR (zI h) 3 f) {Q : Nat} (hk : kd h Q = 13) (hl : zl h Q = 5) {sf : Nat → Nat} (hs : seated h Q (nG f) sf) {r : Nat} (hr : r < 2147483648) : F_X2_headsIn 3 (nI r) Q h = some (nI (hdS sf (nG f) r)) := by
  unfold F_X2_headsIn F_X2_headsIn_b0
  have hn := i.2.1.2
  refine ob_p (iter_run (fun j => (nI (hdS sf j r), nI j)) (nG f) _ (fun j hj => ?_) ?_ (FU_lt (by omega))) _
  · show F_X2_headsIn_l5 3 (nI r) Q (nI (hdS sf j r)) (nI j) h = _
    unfold F_X2_headsIn_l5 F_X2_headsIn_b25
    obtain ⟨h1, h2⟩ := hs j hj
    rw [gd_d (k3 s), c.1.2.1, i.2.1.1, if_neg (nI_ge hj (by omega)), gd_d hk, hl, ix_t (by omega) (by omega), gd_t, ncl (by omega), h1, nI_1, nI_1]
    unfold hdS
    rw [ct_suc]
    by_cases q : sf j = r
    · rw [if_pos (by rw [q]), if_pos (decide_eq_true q)]
    · rw [if_neg (fun z => q ((nI_eq (by omega) hr).mp z)), if_neg (by simp [q])]
      rfl
  · show F_X2_headsIn_l5 3 (nI r) Q (nI (hdS sf (nG f) r)) (nI (nG f)) h = _
    unfold F_X2_headsIn_l5
    rw [gd_d (k3 s), c.1.2.1, ← i.2.1.1, if_pos (Int32.le_refl _)]
/-- the reference's own seats, taken from the world -/
def hSit (h : Hp) : Hp := wI h (va_up (zI h) 66 (fillF (fun g => zI h 60 (44 + 2 * g)) (zI h 66) (nG (zI h 60))))
theorem m_sits (s : Sh h) (i : Inv (zI h 60)) : F_X12_sits 59 h = some ((), hSit h) := by
  unfold F_X12_sits F_X12_sits_b0
  have hn := i.2.1.2
  have e0 := i.2.1.1
  refine ob_p (iter_at (fun j => (nI j, wI h (va_up (zI h) 66 (fillF (fun g => zI h 60 (44 + 2 * g)) (zI h 66) j)))) (nG (zI h 60)) (hSit h) ?_ (fun j hj => ?_) ?_ (FU_lt (by omega))) _
  · rw [fill_0, va_same]
    rfl
  · show F_X12_sits_l2 59 (nI j) (wI h (va_up (zI h) 66 (fillF (fun g => zI h 60 (44 + 2 * g)) (zI h 66) j))) = _
    unfold F_X12_sits_l2
    have s' := Sh_w s (va_up (zI h) 66 (fillF (fun g => zI h 60 (44 + 2 * g)) (zI h 66) j))
    have e60 : zI (wI h (va_up (zI h) 66 (fillF (fun g => zI h 60 (44 + 2 * g)) (zI h 66) j))) 60 = zI h 60 := wv_n (by decide)
    rw [m_guests s', ob_s, gd_d (k59 s'), e60, e0, if_neg (nI_ge hj (by omega)), r59_15 s', ob_s, m_roomOf s' (by omega), ob_s, gd_d (k66 s'), l66 s', ix_t (by omega) (by omega), gd_t, ncl (by omega), e60, nI_1, setI_w, wI_I, wI_w]
    have := up2_fill (zI h) 66 (fun g => zI h 60 (44 + 2 * g)) (zI h 66) j
    rw [← this]
  · show F_X12_sits_l2 59 (nI (nG (zI h 60))) (wI h (va_up (zI h) 66 (fillF (fun g => zI h 60 (44 + 2 * g)) (zI h 66) (nG (zI h 60))))) = _
    unfold F_X12_sits_l2
    have s' := Sh_w s (va_up (zI h) 66 (fillF (fun g => zI h 60 (44 + 2 * g)) (zI h 66) (nG (zI h 60))))
    have e60 : zI (wI h (va_up (zI h) 66 (fillF (fun g => zI h 60 (44 + 2 * g)) (zI h 66) (nG (zI h 60))))) 60 = zI h 60 := wv_n (by decide)
    rw [m_guests s', ob_s, gd_d (k59 s'), e60, ← e0, if_pos (Int32.le_refl _)]
    rfl
theorem hSit_sh (s : Sh h) : Sh (hSit h) := Sh_w s _
theorem hSit_60 : zI (hSit h) 60 = zI h 60 := wv_n (by decide)
theorem hSit_o {a : Nat} (ha : a ≠ 66) : zI (hSit h) a = zI h a := wv_n ha
theorem hSit_s (i : Inv (zI h 60)) : seated (hSit h) 66 (nG (zI h 60)) (sit (zI h 60)) := fun g hg => by
  have h8 := i.1.2
  obtain ⟨-, h2, h3⟩ := igs i g hg
  have : zI (hSit h) 66 g = zI h 60 (44 + 2 * g) := by
    unfold hSit
    rw [wv_e, fill_in hg]
  exact ⟨this.trans h2, by omega⟩
end NUM
