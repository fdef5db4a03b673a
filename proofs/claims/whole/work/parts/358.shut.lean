/-! THE CLASS: far and queue are made, and shut -/
section SHUT
variable {h h2 : Hp} {f : Nat → Int32}
set_option maxHeartbeats 4000000 in
theorem Sh_ext (s : Sh h) (hk : ∀ a, a < 73 → kd h2 a = kd h a) (hl : ∀ a, a < 73 → zl h2 a = zl h a) (hr : ∀ a k, a < 73 → a ≠ 50 → (a ≠ 0 ∨ k ≠ 9) → zR h2 a k = zR h a k) (hn : 73 ≤ zN h2) : Sh h2 := by
  unfold Sh at s ⊢
  simp (disch := decide) only [hk, hl, hr]
  exact ⟨hn, s.2⟩
set_option maxHeartbeats 4000000 in
theorem HS_ext {K : Nat} (s : HS h K) (hk : ∀ a, K ≤ a → a < K + 33 → kd h2 a = kd h a) (hl : ∀ a, K ≤ a → a < K + 33 → zl h2 a = zl h a) (hr : ∀ a k, K ≤ a → a < K + 33 → zR h2 a k = zR h a k) : HS h2 K := by
  unfold HS at s ⊢
  simp (disch := omega) only [hk, hl, hr]
  exact s
/-- the two rows are new -/
def nwF (h : Hp) (m : Nat) : Hp := setR (alloc (setR (alloc h 13 m) 50 0 (some (zN h))) 13 m) 50 1 (some (zN h + 1))
theorem nw_k {m a : Nat} (ha : a < zN h) : kd (nwF h m) a = kd h a := by
  unfold nwF
  rw [kd_setR]
  unfold kd alloc setR
  show (if a < zN h + 1 + 1 then (va_up (va_up (zK h) (zN h) (13, m)) (zN h + 1) (13, m) a).1 else 99) = _
  rw [if_pos (by omega), if_pos ha, va_n _ _ _ _ (by omega), va_n _ _ _ _ (by omega)]
theorem nw_l {m a : Nat} (ha : a < zN h) : zl (nwF h m) a = zl h a := by
  unfold nwF zl alloc setR
  show (va_up (va_up (zK h) (zN h) (13, m)) (zN h + 1) (13, m) a).2 = _
  rw [va_n _ _ _ _ (by omega), va_n _ _ _ _ (by omega)]
theorem nw_I {m a : Nat} (ha : a < zN h) : zI (nwF h m) a = zI h a := by
  show va_up (va_up (zI h) (zN h) (fun _ => 0)) (zN h + 1) (fun _ => 0) a = _
  rw [va_n _ _ _ _ (by omega), va_n _ _ _ _ (by omega)]
theorem nw_R {m a k : Nat} (ha : a < zN h) (h50 : a ≠ 50) : zR (nwF h m) a k = zR h a k := by
  unfold nwF
  rw [zR_setR, if_neg h50]
  show va_up (zR (setR (alloc h 13 m) 50 0 (some (zN h)))) (zN h + 1) (fun _ => none) a k = _
  rw [va_n _ _ _ _ (by omega), zR_setR, if_neg h50]
  show va_up (zR h) (zN h) (fun _ => none) a k = _
  rw [va_n _ _ _ _ (by omega)]
theorem nw_N {m : Nat} : zN (nwF h m) = zN h + 2 := rfl
theorem nw_A {m : Nat} : kd (nwF h m) (zN h) = 13 ∧ zl (nwF h m) (zN h) = m ∧ kd (nwF h m) (zN h + 1) = 13 ∧ zl (nwF h m) (zN h + 1) = m := by
  have e1 : zK (nwF h m) (zN h) = (13, m) := by
    show va_up (va_up (zK h) (zN h) (13, m)) (zN h + 1) (13, m) (zN h) = _
    rw [va_n _ _ _ _ (by omega), va_e]
  have e2 : zK (nwF h m) (zN h + 1) = (13, m) := by
    show va_up (va_up (zK h) (zN h) (13, m)) (zN h + 1) (13, m) (zN h + 1) = _
    rw [va_e]
  refine ⟨?_, ?_, ?_, ?_⟩
  · unfold kd
    rw [nw_N, if_pos (by omega), e1]
  · unfold zl
    rw [e1]
  · unfold kd
    rw [nw_N, if_pos (by omega), e2]
  · unfold zl
    rw [e2]
theorem nw_0 {m : Nat} (h73 : 73 ≤ zN h) : zR (nwF h m) 50 0 = some (zN h) ∧ zR (nwF h m) 50 1 = some (zN h + 1) := by
  constructor
  · unfold nwF
    rw [zR_setR, if_pos rfl, if_neg (by decide)]
    show va_up (zR (setR (alloc h 13 m) 50 0 (some (zN h)))) (zN h + 1) (fun _ => none) 50 0 = _
    rw [va_n _ _ _ _ (by omega), zR_setR, if_pos rfl, if_pos rfl]
  · unfold nwF
    rw [zR_setR, if_pos rfl, if_pos rfl]
theorem GS_far (g : GS h) {m : Nat} (hm : m = 1 ∨ m = 8 ∨ m = 64 ∨ m = 512 ∨ m = 4096 ∨ m = 32768) : GS (nwF h m) ∧ Pt (nwF h m) (zN h) (zN h + 1) m := by
  obtain ⟨s, i, c, t, A, Q, n, p, im⟩ := g
  have h73 : 73 ≤ zN h := s.1
  have lo : ∀ a, a < 73 → zI (nwF h m) a = zI h a := fun a ha => nw_I (by omega)
  obtain ⟨a1, a2, a3, a4⟩ := nw_A (h := h) (m := m)
  obtain ⟨b1, b2⟩ := nw_0 (m := m) h73
  have pt : Pt (nwF h m) (zN h) (zN h + 1) m := ⟨b1, b2, a1, a3, a2, a4, by omega, Or.inr ⟨h73, by omega⟩, by rw [nw_N]; omega, by rw [nw_N]; omega, Or.inr hm⟩
  refine ⟨⟨Sh_ext s (fun a ha => nw_k (by omega)) (fun a ha => nw_l (by omega)) (fun a k ha h50 _ => nw_R (by omega) h50) (by rw [nw_N]; omega), by rw [lo 60 (by omega)]; exact i, ?_, ?_, zN h, zN h + 1, m, pt, ?_⟩, pt⟩
  · rw [lo 60 (by omega)]
    exact HR_congr (f := zI h 60) (fun a ha => lo _ (by omega)) (fun g hg => ⟨lo _ (by omega), lo _ (by omega)⟩) (fun _ _ => rfl) i c
  · unfold TP at t ⊢
    rw [lo 2 (by omega), lo 63 (by omega), lo 1 (by omega), lo 59 (by omega)]
    exact t
  · rcases im with ⟨m1, m2⟩ | ⟨K, m1, m2, m3, m4, m5, m6, m7, m8, m9⟩
    · exact Or.inl ⟨by rw [nw_R (by omega) (by decide)]; exact m1, by rw [lo 59 (by omega)]; exact m2⟩
    · refine Or.inr ⟨K, by rw [nw_R (by omega) (by decide)]; exact m1, HS_ext m2 (fun a h1 h2 => nw_k (by omega)) (fun a h1 h2 => nw_l (by omega)) (fun a k h1 h2 => nw_R (by omega) (by omega)), m3, by rw [nw_N]; omega, Or.inr (by omega), Or.inr (by omega), by rw [lo 59 (by omega)]; exact m7, ?_, by rw [lo 61 (by omega)]; exact m9⟩
      rw [lo 61 (by omega)]
      exact HR_congr (f := zI h 61) (fun a ha => nw_I (by omega)) (fun g hg => ⟨nw_I (by omega), nw_I (by omega)⟩) (fun _ _ => rfl) m9 m8
theorem sh1 {m : Nat} (hm : m ≤ 5) : jmin (32768 : Int32) ((1 : Int32) <<< (((3 : Int32) * nI m) &&& 31)) = nI (8 ^ m) ∧ (8 ^ m = 1 ∨ 8 ^ m = 8 ∨ 8 ^ m = 64 ∨ 8 ^ m = 512 ∨ 8 ^ m = 4096 ∨ 8 ^ m = 32768) := by
  have : m = 0 ∨ m = 1 ∨ m = 2 ∨ m = 3 ∨ m = 4 ∨ m = 5 := by omega
  rcases this with rfl | rfl | rfl | rfl | rfl | rfl <;> exact ⟨by decide, by decide⟩
theorem k50 (s : Sh h) : kd h 50 = 4 := by unfold Sh at s; simp only [s]
/-- all is shut -/
theorem x_shutL {A Q n : Nat} (s : Sh h) (p : Pt h A Q n) {m : Nat} (hm : 8 ^ m ≤ n) (h5 : m ≤ 5) : F_X4_shutAll_b34 50 (nI (8 ^ m)) h = some ((), setI (stH h A (fillF (fun _ => -2) (zI h A) (8 ^ m))) 50 2 0, 0, 0) := by
  have p8 := pow8 h5
  have hn : n ≤ 32768 := by
    have := p.2.2.2.2.2.2.2.2.2.2
    omega
  have hr : ∀ J, zR (wI h J) 50 0 = some A := fun J => p.1
  unfold F_X4_shutAll_b34
  refine (ob_p (iter_at (fun j => (nI j, stH h A (fillF (fun _ => -2) (zI h A) j))) (8 ^ m) (stH h A (fillF (fun _ => -2) (zI h A) (8 ^ m))) (by rw [fill_0, stH_0]; rfl) (fun j hj => ?_) ?_ (FU_lt (by omega))) _).trans ?_
  · show F_X4_shutAll_l36 50 (nI (8 ^ m)) (nI j) (stH h A (fillF (fun _ => -2) (zI h A) j)) = _
    have s' : Sh (stH h A (fillF (fun _ => -2) (zI h A) j)) := s
    have e1 : zR (stH h A (fillF (fun _ => -2) (zI h A) j)) 50 0 = some A := p.1
    have e2 : kd (stH h A (fillF (fun _ => -2) (zI h A) j)) A = 13 := p.2.2.1
    have e3 : zl (stH h A (fillF (fun _ => -2) (zI h A) j)) A = n := p.2.2.2.2.1
    unfold F_X4_shutAll_l36
    rw [if_neg (nI_ge hj (by omega)), gd_d (k50 s'), e1, ob_s, gd_d e2, e3, ix_t (by omega) (by omega), gd_t, ncl (by omega), stH_w, nI_1]
    have := fill_up (a := fun _ => -2) (b := zI h A) (j := j)
    rw [← this]
  · show F_X4_shutAll_l36 50 (nI (8 ^ m)) (nI (8 ^ m)) _ = _
    unfold F_X4_shutAll_l36
    rw [if_pos (Int32.le_refl _)]
  · exact gd_d (k50 (h := stH h A (fillF (fun _ => -2) (zI h A) (8 ^ m))) s) _
def shO (h hx : Hp) (J : Nat → Nat → Int32) (A Q n m : Nat) : Prop := GS hx ∧ Pt hx A Q n ∧ 8 ^ m ≤ n ∧ n ≤ 32768 ∧ 73 ≤ A ∧ 73 ≤ Q ∧ (∀ a, a < 73 → zI hx a = zI h a) ∧ (∀ k, k < 8 ^ m → J A k = -2) ∧ J 50 2 = 0 ∧ ∀ a, a ≠ A → a ≠ 50 → J a = zI hx a
theorem farL_e {A Q n : Nat} (p : Pt h A Q n) : farL h = n := by
  unfold farL
  rw [p.1]
  exact p.2.2.2.2.1
theorem x_shutAll (g : GS h) {m : Nat} (h5 : m ≤ 5) : ∃ hx J A Q n c sl, F_X4_shutAll 50 (nI m) h = some ((), wI hx J, c, sl) ∧ shO h hx J A Q n m ∧ c + potC hx ≤ potC h ∧ sl + potS hx ≤ potS h := by
  obtain ⟨s, i, cc, t, A, Q, n, p, im⟩ := id g
  obtain ⟨e1, e2⟩ := sh1 h5
  have p8 := pow8 h5
  have pp := p8p m
  have hn : n ≤ 32768 := by
    have := p.2.2.2.2.2.2.2.2.2.2
    omega
  have fin : ∀ {hx : Hp} {A Q n : Nat}, GS hx → Pt hx A Q n → 8 ^ m ≤ n → n ≤ 32768 → (∀ a, a < 73 → zI hx a = zI h a) → shO h hx (zI (setI (stH hx A (fillF (fun _ => -2) (zI hx A) (8 ^ m))) 50 2 0)) A Q n m := fun {hx A Q n} g p h1 h2 h3 => by
    have hA : 73 ≤ A ∧ 73 ≤ Q := by
      rcases p.2.2.2.2.2.2.2.1 with ⟨-, -, q⟩ | q
      · omega
      · exact q
    refine ⟨g, p, h1, h2, hA.1, hA.2, h3, fun k hk => ?_, su_e, fun a h4 h5 => ?_⟩
    · rw [su_n (by omega), stH_e]
      exact fill_in hk
    · rw [su_n h5, stH_o h4]
  unfold F_X4_shutAll F_X4_shutAll_b0
  rw [gd_d (k50 s), p.1, ob_s, gd_d p.2.2.1, e1, p.2.2.2.2.1]
  change ∃ hx J A Q n0 c sl, (if nI (8 ^ m) ≤ nI n then _ else _) = _ ∧ _
  by_cases q : 8 ^ m ≤ n
  · rw [if_pos (nI_le q (by omega)), x_shutL s p q h5]
    exact ⟨h, _, A, Q, n, 0, 0, rfl, fin g p q hn (fun _ _ => rfl), by omega, by omega⟩
  · obtain ⟨g2, p2⟩ := GS_far g e2
    have s2 := g2.1
    have e3 : (nI (8 ^ m)).toNatClampNeg = 8 ^ m := ncl (by omega)
    have e4 : gd (decide (¬ nI (8 ^ m) < 0 ∧ (nI (8 ^ m)).toNatClampNeg ≤ 60000000)) = (fun k : Option (Unit × Hp × Nat × Nat) => k) := by
      funext k
      exact gd_d ⟨nI_pos (by omega), by rw [e3]; omega⟩ k
    have e5 : F_X4_shutAll_b34 50 (nI (8 ^ m)) (nwF h (8 ^ m)) = some ((), setI (stH (nwF h (8 ^ m)) (zN h) (fillF (fun _ => -2) (zI (nwF h (8 ^ m)) (zN h)) (8 ^ m))) 50 2 0, 0, 0) := x_shutL s2 p2 (Nat.le_refl _) h5
    refine ⟨nwF h (8 ^ m), zI (setI (stH (nwF h (8 ^ m)) (zN h) (fillF (fun _ => -2) (zI (nwF h (8 ^ m)) (zN h)) (8 ^ m))) 50 2 0), zN h, zN h + 1, 8 ^ m, 2, 8 ^ m + 8 ^ m, ?_, fin g2 p2 (Nat.le_refl _) p8 (fun a ha => nw_I (by have := s.1; omega)), ?_, ?_⟩
    · rw [if_neg (nI_ge (by omega) (by omega)), e4, e3]
      show ac 1 (8 ^ m) (ac 1 (8 ^ m) (F_X4_shutAll_b34 50 (nI (8 ^ m)) (nwF h (8 ^ m)))) = _
      rw [e5, ac_s, ac_s]
      show some ((), _, 0 + 1 + 1, 0 + 8 ^ m + 8 ^ m) = some ((), _, 2, 8 ^ m + 8 ^ m)
      rw [Nat.zero_add (8 ^ m)]
      rfl
    · have k1 : keptN (nwF h (8 ^ m)) = keptN h := by
        unfold keptN
        rw [nw_R (by have := s.1; omega) (by decide)]
      unfold potC
      rw [farL_e p2, farL_e p, k1]
      omega
    · have k1 : keptN (nwF h (8 ^ m)) = keptN h := by
        unfold keptN
        rw [nw_R (by have := s.1; omega) (by decide)]
      have h8 : 8 * n ≤ 8 ^ m := by
        have := p.2.2.2.2.2.2.2.2.2.2
        omega
      unfold potS
      rw [farL_e p2, farL_e p, k1]
      omega
end SHUT
