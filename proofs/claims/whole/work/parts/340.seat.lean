/-! SEATINGS IN THEIR ORDER: numbers of base 8, guest 0 first -/
def ordS (s : Nat → Nat) : Nat → Nat
  | 0 => 0
  | n + 1 => 8 * ordS s n + s n
def dg (n i g : Nat) : Nat := i / 8 ^ (n - 1 - g) % 8
theorem ordS_s (s : Nat → Nat) (n : Nat) : ordS s (n + 1) = 8 * ordS s n + s n := rfl
theorem ordS_congr {s t : Nat → Nat} : ∀ {n : Nat}, (∀ g, g < n → s g = t g) → ordS s n = ordS t n
  | 0, _ => rfl
  | n + 1, h => by
    rw [ordS_s, ordS_s, ordS_congr (fun g hg => h g (by omega)), h n (by omega)]
theorem ordS_lt {s : Nat → Nat} : ∀ {n : Nat}, (∀ g, g < n → s g < 8) → ordS s n < 8 ^ n
  | 0, _ => by simp [ordS]
  | n + 1, h => by
    have h1 := ordS_lt (s := s) (n := n) (fun g hg => h g (by omega))
    have h2 := h n (by omega)
    rw [ordS_s, Nat.pow_succ]
    omega
theorem dg_lt (n i g : Nat) : dg n i g < 8 := Nat.mod_lt _ (by decide)
theorem dg_last (n i : Nat) : dg (n + 1) i n = i % 8 := by
  unfold dg
  rw [show n + 1 - 1 - n = 0 by omega, Nat.pow_zero, Nat.div_one]
theorem dg_up {n i g : Nat} (hg : g < n) : dg (n + 1) i g = dg n (i / 8) g := by
  unfold dg
  rw [show n + 1 - 1 - g = n - 1 - g + 1 by omega, Nat.pow_succ, Nat.mul_comm, ← Nat.div_div_eq_div_mul]
theorem ord_dg : ∀ {n i : Nat}, i < 8 ^ n → ordS (dg n i) n = i
  | 0, i, h => by
    have : i = 0 := by simpa using h
    subst this
    rfl
  | n + 1, i, h => by
    rw [ordS_s, dg_last, ordS_congr (t := dg n (i / 8)) (fun g hg => dg_up hg), ord_dg (by rw [Nat.pow_succ] at h; omega)]
    omega
theorem dg_ord {s : Nat → Nat} : ∀ {n : Nat}, (∀ g, g < n → s g < 8) → ∀ g, g < n → dg n (ordS s n) g = s g
  | 0, _, g, hg => absurd hg (by omega)
  | n + 1, h, g, hg => by
    have hn := h n (by omega)
    by_cases e : g = n
    · subst e
      rw [dg_last, ordS_s]
      omega
    · rw [dg_up (by omega), ordS_s, show (8 * ordS s n + s n) / 8 = ordS s n by omega]
      exact dg_ord (fun g hg => h g (by omega)) g (by omega)
/-- the first m figures -/
theorem dg_cut {n m i g : Nat} (hm : m ≤ n) (hg : g < m) : dg n i g = dg m (i / 8 ^ (n - m)) g := by
  unfold dg
  rw [Nat.div_div_eq_div_mul, ← Nat.pow_add, show n - m + (m - 1 - g) = n - 1 - g by omega]
theorem hdS_s (s : Nat → Nat) (n r : Nat) : hdS s (n + 1) r = hdS s n r + (if s n = r then 1 else 0) := by
  unfold hdS
  rw [ct_suc]
  by_cases q : s n = r
  · rw [if_pos q, if_pos (decide_eq_true q)]
  · rw [if_neg q, if_neg (by simp [q])]
theorem hdS_congr {s t : Nat → Nat} {n : Nat} (e : ∀ g, g < n → s g = t g) (r : Nat) : hdS s n r = hdS t n r := by
  unfold hdS
  exact fb_ct_cong (fun k hk => by rw [e k hk])
section SEAT
variable {f : Nat → Int32}
def bd (f : Nat → Int32) (r : Nat) : Nat := (f (13 + 4 * r)).toNatClampNeg
theorem bw_nat {x : Int32} {a b : Nat} (h : bw x a b) (hb : b < 2147483648) : x = nI x.toNatClampNeg ∧ a ≤ x.toNatClampNeg ∧ x.toNatClampNeg ≤ b := by
  obtain ⟨h1, h2⟩ := h
  have z : (0 : Int32).toInt = 0 := rfl
  have hn : ¬ x < 0 := by
    rw [fa_lt, z]
    omega
  obtain ⟨j, hj, rfl⟩ := nI_of hn
  rw [nI_clamp hj]
  rw [nI_toInt hj] at h1 h2
  exact ⟨rfl, by omega, by omega⟩
theorem bd_eq (i : Inv f) {r : Nat} (hr : r < nR f) : f (13 + 4 * r) = nI (bd f r) ∧ 1 ≤ bd f r ∧ bd f r ≤ 4 := bw_nat (a := 1) (b := 4) (irm i r hr).2.2.1 (by omega)
/-- the first m guests sit as they may -/
def pv (f : Nat → Int32) (s : Nat → Nat) (m : Nat) : Prop := ∀ k, k < m → s k < nR f ∧ hdS s m (s k) ≤ bd f (s k)
theorem pv_0 (s : Nat → Nat) : pv f s 0 := fun k hk => absurd hk (by omega)
theorem pv_congr {s t : Nat → Nat} {m : Nat} (e : ∀ g, g < m → s g = t g) (p : pv f s m) : pv f t m := fun k hk => by
  rw [← e k hk, ← hdS_congr e]
  exact p k hk
theorem pv_s {s : Nat → Nat} {m : Nat} : pv f s (m + 1) ↔ pv f s m ∧ s m < nR f ∧ hdS s m (s m) < bd f (s m) := by
  constructor
  · intro p
    refine ⟨fun k hk => ?_, ?_, ?_⟩
    · obtain ⟨p1, p2⟩ := p k (by omega)
      rw [hdS_s] at p2
      exact ⟨p1, by omega⟩
    · exact (p m (by omega)).1
    · have := (p m (by omega)).2
      rw [hdS_s, if_pos rfl] at this
      omega
  · intro ⟨p, p1, p2⟩ k hk
    by_cases e : k = m
    · subst e
      rw [hdS_s, if_pos rfl]
      exact ⟨p1, by omega⟩
    · obtain ⟨q1, q2⟩ := p k (by omega)
      refine ⟨q1, ?_⟩
      rw [hdS_s]
      by_cases e2 : s m = s k
      · rw [if_pos e2, ← e2]
        omega
      · rw [if_neg e2]
        omega
theorem pv_le {s : Nat → Nat} {m : Nat} : ∀ {n : Nat}, m ≤ n → pv f s n → pv f s m
  | 0, h, p => by
    have : m = 0 := by omega
    subst this
    exact p
  | n + 1, h, p => by
    by_cases e : m = n + 1
    · subst e
      exact p
    · exact pv_le (by omega) (pv_s.mp p).1
def vS (f : Nat → Int32) (s : Nat → Nat) : Bool := decide (∀ k, k < nG f → (s k < nR f ∧ hdS s (nG f) (s k) ≤ bd f (s k)))
theorem vS_iff {s : Nat → Nat} : vS f s = true ↔ pv f s (nG f) := decide_eq_true_iff
/-- the i-th order is a seating -/
def vI (f : Nat → Int32) (i : Nat) : Bool := vS f (dg (nG f) i)
theorem vI_ord {s : Nat → Nat} (i : Inv f) (p : pv f s (nG f)) : vI f (ordS s (nG f)) = true := by
  have r8 := iR8 i
  unfold vI
  rw [vS_iff]
  exact pv_congr (fun g hg => (dg_ord (fun g hg => by have := (p g hg).1; omega) g hg).symm) p
theorem vI_skip {s : Nat → Nat} {g c e : Nat} (hg : g < nG f) (h8 : ∀ k, k < g → s k < 8) (bad : ∀ r, c ≤ r → r < e → nR f ≤ r ∨ bd f r ≤ hdS s g r) (he : e ≤ 8) {i : Nat} (h1 : (8 * ordS s g + c) * 8 ^ (nG f - 1 - g) ≤ i) (h2 : i < (8 * ordS s g + e) * 8 ^ (nG f - 1 - g)) : vI f i = false := by
  have hp : 0 < 8 ^ (nG f - 1 - g) := Nat.pow_pos (by decide)
  have a1 : 8 * ordS s g + c ≤ i / 8 ^ (nG f - 1 - g) := (Nat.le_div_iff_mul_le hp).mpr h1
  have a2 : i / 8 ^ (nG f - 1 - g) < 8 * ordS s g + e := (Nat.div_lt_iff_lt_mul hp).mpr h2
  obtain ⟨r, hr⟩ : ∃ r, i / 8 ^ (nG f - 1 - g) = 8 * ordS s g + r := ⟨i / 8 ^ (nG f - 1 - g) - 8 * ordS s g, by omega⟩
  have d1 : dg (nG f) i g = r := by
    rw [dg_cut (m := g + 1) (by omega) (by omega), show nG f - (g + 1) = nG f - 1 - g by omega, hr, dg_last]
    omega
  have d2 : ∀ k, k < g → dg (nG f) i k = s k := fun k hk => by
    rw [dg_cut (m := g + 1) (by omega) (by omega), show nG f - (g + 1) = nG f - 1 - g by omega, hr, dg_up hk, show (8 * ordS s g + r) / 8 = ordS s g by omega]
    exact dg_ord h8 k hk
  cases q : vI f i with
  | false => rfl
  | true =>
    have p := (pv_s.mp (pv_le (m := g + 1) (by omega) (vS_iff.mp q))).2
    rw [d1, hdS_congr d2] at p
    rcases bad r (by omega) (by omega) with b | b
    · omega
    · omega
/-- how long the way through all seatings may yet be -/
def dT : Nat → Nat
  | 0 => 0
  | k + 1 => 8 * (1 + dT k) + 1
def dR (n : Nat) (s : Nat → Nat) : Nat → Nat
  | 0 => 0
  | k + 1 => dR n s k + ((7 - s k) * (1 + dT (n - k - 1)) + 1)
def dW (n : Nat) (s : Nat → Nat) (g c : Nat) : Nat := dR n s g + ((8 - c) * (1 + dT (n - g - 1)) + 1)
theorem dR_congr {n : Nat} {s t : Nat → Nat} : ∀ {k : Nat}, (∀ g, g < k → s g = t g) → dR n s k = dR n t k
  | 0, _ => rfl
  | k + 1, h => by
    unfold dR
    rw [dR_congr (fun g hg => h g (by omega)), h k (by omega)]
theorem dT_le : ∀ k, k < 5 → dT k ≤ 5265 := by decide
theorem dR_le {n : Nat} (hn : n ≤ 5) {s : Nat → Nat} : ∀ {k : Nat}, k ≤ n → dR n s k ≤ k * 42129
  | 0, _ => by simp [dR]
  | k + 1, h => by
    have h1 := dR_le hn (s := s) (k := k) (by omega)
    have h2 := dT_le (n - k - 1) (by omega)
    have h3 : (7 - s k) * (1 + dT (n - k - 1)) ≤ 7 * 5266 := Nat.mul_le_mul (by omega) (by omega)
    unfold dR
    omega
theorem dW_le {n : Nat} (hn : n ≤ 5) {s : Nat → Nat} {g c : Nat} (hg : g < n) : dW n s g c ≤ 300000 := by
  have h1 := dR_le hn (s := s) (k := g) (by omega)
  have h2 := dT_le (n - g - 1) (by omega)
  have h3 : (8 - c) * (1 + dT (n - g - 1)) ≤ 8 * 5266 := Nat.mul_le_mul (by omega) (by omega)
  unfold dW
  omega
theorem dW_up {n : Nat} {s : Nat → Nat} {g c r : Nat} (hr : r < 8) (hc : c ≤ r) (hg : g + 1 < n) : dW n (va_up s g r) (g + 1) 0 < dW n s g c := by
  obtain ⟨m, hm⟩ : ∃ m, n - g - 1 = m + 1 := ⟨n - g - 2, by omega⟩
  have e1 : dR n (va_up s g r) (g + 1) = dR n s g + ((7 - r) * (1 + dT (m + 1)) + 1) := by
    show dR n (va_up s g r) g + ((7 - va_up s g r g) * (1 + dT (n - g - 1)) + 1) = _
    rw [va_e, hm, dR_congr (t := s) (fun k hk => va_n _ _ _ _ (by omega))]
  have e2 : dT (m + 1) = 8 * (1 + dT m) + 1 := rfl
  have e3 : (7 - r + 1) * (1 + dT (m + 1)) ≤ (8 - c) * (1 + dT (m + 1)) := Nat.mul_le_mul_right _ (by omega)
  rw [Nat.add_mul] at e3
  unfold dW
  rw [e1, hm, show n - (g + 1) - 1 = m by omega]
  omega
theorem dW_down {n : Nat} {s : Nat → Nat} {k c : Nat} : dW n s k (s k + 1) < dW n s (k + 1) c := by
  have e : dR n s (k + 1) = dR n s k + ((7 - s k) * (1 + dT (n - k - 1)) + 1) := rfl
  unfold dW
  rw [e, show 8 - (s k + 1) = 7 - s k by omega]
  omega
end SEAT
