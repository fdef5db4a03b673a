/-! FIGURES OF BASE 8 -/
def nd (x k : Nat) : Nat := x / 8 ^ k % 8
def rep (x k r : Nat) : Nat := 8 ^ k * (8 * (x / 8 ^ (k + 1)) + r) + x % 8 ^ k
theorem p8p (k : Nat) : 0 < 8 ^ k := Nat.pow_pos (by decide)
theorem nd_lt (x k : Nat) : nd x k < 8 := Nat.mod_lt _ (by decide)
theorem nd_cut {j k q z : Nat} (h : j < k) : nd (8 ^ k * q + z) j = nd z j := by
  obtain ⟨m, rfl⟩ : ∃ m, k = j + (m + 1) := ⟨k - j - 1, by omega⟩
  unfold nd
  have e : 8 ^ (j + (m + 1)) * q + z = 8 ^ j * (8 * (8 ^ m * q)) + z := by
    rw [Nat.pow_add, Nat.pow_succ, Nat.mul_assoc, Nat.mul_comm (8 ^ m) 8, Nat.mul_assoc]
  rw [e, Nat.mul_add_div (p8p j)]
  omega
theorem nd_mod {j k x : Nat} (h : j < k) : nd (x % 8 ^ k) j = nd x j := by
  have := nd_cut (q := x / 8 ^ k) (z := x % 8 ^ k) h
  rw [Nat.div_add_mod] at this
  exact this.symm
theorem rep_div (x k r : Nat) : rep x k r / 8 ^ k = 8 * (x / 8 ^ (k + 1)) + r := by
  unfold rep
  rw [Nat.mul_add_div (p8p k), Nat.div_eq_of_lt (Nat.mod_lt _ (p8p k)), Nat.add_zero]
theorem nd_rep {x k r j : Nat} (hr : r < 8) : nd (rep x k r) j = if j = k then r else nd x j := by
  by_cases e : j = k
  · subst e
    rw [if_pos rfl]
    show rep x j r / 8 ^ j % 8 = r
    rw [rep_div]
    omega
  · rw [if_neg e]
    by_cases q : j < k
    · unfold rep
      rw [nd_cut q, nd_mod q]
    · obtain ⟨m, rfl⟩ : ∃ m, j = k + 1 + m := ⟨j - k - 1, by omega⟩
      have e1 : rep x k r / 8 ^ (k + 1 + m) = x / 8 ^ (k + 1 + m) := by
        have a1 : rep x k r / 8 ^ (k + 1) = x / 8 ^ (k + 1) := by
          rw [show rep x k r / 8 ^ (k + 1) = rep x k r / 8 ^ k / 8 by rw [Nat.pow_succ, Nat.div_div_eq_div_mul], rep_div]
          omega
        rw [Nat.pow_add (m := k + 1), ← Nat.div_div_eq_div_mul, a1, Nat.div_div_eq_div_mul]
      unfold nd
      rw [e1]
theorem rep_lt {x k r n : Nat} (hx : x < 8 ^ n) (hk : k < n) (hr : r < 8) : rep x k r < 8 ^ n := by
  obtain ⟨m, rfl⟩ : ∃ m, n = k + 1 + m := ⟨n - k - 1, by omega⟩
  have h1 : x / 8 ^ (k + 1) < 8 ^ m := by
    rw [Nat.div_lt_iff_lt_mul (p8p _), ← Nat.pow_add, Nat.add_comm m]
    exact hx
  have h2 : 8 * (x / 8 ^ (k + 1)) + r + 1 ≤ 8 * 8 ^ m := by omega
  have h3 := Nat.mul_le_mul_left (8 ^ k) h2
  have h4 : 8 ^ (k + 1 + m) = 8 ^ k * (8 * 8 ^ m) := by rw [Nat.pow_add, Nat.pow_succ, Nat.mul_assoc]
  have h5 := Nat.mod_lt x (p8p k)
  unfold rep
  rw [h4]
  rw [Nat.mul_add] at h3
  omega
theorem num_mod (x : Nat) : ∀ n, numS (nd x) n = x % 8 ^ n
  | 0 => by
    rw [Nat.pow_zero, Nat.mod_one]
    rfl
  | n + 1 => by
    rw [numS_s, num_mod x n, Nat.mod_pow_succ, Nat.mul_comm]
    rfl
theorem ext8 {n x y : Nat} (hx : x < 8 ^ n) (hy : y < 8 ^ n) (e : ∀ k, k < n → nd x k = nd y k) : x = y := by
  have a := num_mod x n
  have b := num_mod y n
  rw [Nat.mod_eq_of_lt hx] at a
  rw [Nat.mod_eq_of_lt hy] at b
  rw [← a, ← b]
  exact numS_congr e
theorem nd_num {s : Nat → Nat} : ∀ {n : Nat}, (∀ g, g < n → s g < 8) → ∀ k, k < n → nd (numS s n) k = s k
  | 0, _, k, hk => absurd hk (by omega)
  | n + 1, h, k, hk => by
    have hn := h n (by omega)
    have e : numS s (n + 1) = 8 ^ n * s n + numS s n := by rw [numS_s, Nat.mul_comm, Nat.add_comm]
    rw [e]
    by_cases q : k = n
    · subst q
      unfold nd
      rw [Nat.mul_add_div (p8p k), Nat.div_eq_of_lt (numS_lt (fun g hg => h g (by omega)))]
      omega
    · rw [nd_cut (by omega)]
      exact nd_num (fun g hg => h g (by omega)) k (by omega)
/-- an order's number -/
def piS (n y : Nat) : Nat := numS (dg n y) n
def nbr (n y g r : Nat) : Nat := rep y (n - 1 - g) r
theorem piS_lt (n y : Nat) : piS n y < 8 ^ n := numS_lt (fun g _ => dg_lt _ _ _)
theorem nd_pi {n y k : Nat} (hk : k < n) : nd (piS n y) k = dg n y k := nd_num (fun g _ => dg_lt _ _ _) k hk
theorem nbr_lt {n y g r : Nat} (hy : y < 8 ^ n) (hg : g < n) (hr : r < 8) : nbr n y g r < 8 ^ n := rep_lt hy (by omega) hr
theorem dg_nbr {n y g r k : Nat} (hg : g < n) (hk : k < n) (hr : r < 8) : dg n (nbr n y g r) k = if k = g then r else dg n y k := by
  have := nd_rep (x := y) (k := n - 1 - g) (j := n - 1 - k) hr
  by_cases e : k = g
  · subst e
    rw [if_pos rfl] at this ⊢
    exact this
  · rw [if_neg (by omega)] at this
    rw [if_neg e]
    exact this
theorem dg_ext {n x y : Nat} (hx : x < 8 ^ n) (hy : y < 8 ^ n) (e : ∀ k, k < n → dg n x k = dg n y k) : x = y := by
  rw [← ord_dg hx, ← ord_dg hy]
  exact ordS_congr e
theorem pi_inj {n x y : Nat} (hx : x < 8 ^ n) (hy : y < 8 ^ n) (e : piS n x = piS n y) : x = y := dg_ext hx hy (fun k hk => by rw [← nd_pi hk, ← nd_pi hk, e])
theorem pi_nbr {n y g r : Nat} (hg : g < n) (hr : r < 8) : piS n (nbr n y g r) = rep (piS n y) g r := by
  refine ext8 (piS_lt _ _) (rep_lt (piS_lt _ _) hg hr) (fun k hk => ?_)
  rw [nd_pi hk, dg_nbr hg hk hr, nd_rep hr]
  by_cases e : k = g
  · rw [if_pos e, if_pos e]
  · rw [if_neg e, if_neg e, nd_pi hk]
theorem pi_ord {n : Nat} {s : Nat → Nat} (h : ∀ g, g < n → s g < 8) : piS n (ordS s n) = numS s n := numS_congr (fun g hg => dg_ord h g hg)
theorem nbr_back {n y g r : Nat} (hy : y < 8 ^ n) (hg : g < n) (hr : r < 8) : nbr n (nbr n y g r) g (dg n y g) = y := by
  refine dg_ext (nbr_lt (nbr_lt hy hg hr) hg (dg_lt _ _ _)) hy (fun k hk => ?_)
  rw [dg_nbr hg hk (dg_lt _ _ _), dg_nbr hg hk hr]
  by_cases e : k = g
  · rw [if_pos e, e]
  · rw [if_neg e, if_neg e]
theorem rep_sum (y k r : Nat) : rep y k r + nd y k * 8 ^ k = y + r * 8 ^ k := by
  have h1 := Nat.div_add_mod y (8 ^ k)
  have h2 : y / 8 ^ (k + 1) = y / 8 ^ k / 8 := by rw [Nat.pow_succ, Nat.div_div_eq_div_mul]
  have h3 : y / 8 ^ k = 8 * (y / 8 ^ k / 8) + nd y k := by
    unfold nd
    omega
  have h4 : 8 ^ k * (y / 8 ^ k) = 8 ^ k * (8 * (y / 8 ^ k / 8)) + 8 ^ k * nd y k := by
    rw [← Nat.mul_add, ← h3]
  unfold rep
  rw [h2, Nat.mul_add, Nat.mul_comm (nd y k), Nat.mul_comm r]
  omega
-- bits
theorem clr {x k M : Nat} (hM : ∀ j, j < 32 → M.testBit j = (decide (j < k) || decide (k + 3 ≤ j))) (hx : x < 2 ^ 32) : x &&& M = 2 ^ (k + 3) * (x / 2 ^ (k + 3)) + x % 2 ^ k := by
  have hl : x % 2 ^ k < 2 ^ (k + 3) := Nat.lt_of_lt_of_le (Nat.mod_lt _ (Nat.two_pow_pos k)) (Nat.pow_le_pow_right (by decide) (by omega))
  apply Nat.eq_of_testBit_eq
  intro j
  rw [Nat.testBit_and, Nat.testBit_two_pow_mul_add _ hl, Nat.testBit_mod_two_pow, Nat.testBit_div_two_pow]
  by_cases h : j < 32
  · rw [hM j h]
    by_cases h1 : j < k + 3
    · rw [if_pos h1]
      by_cases h2 : j < k
      · simp [h2]
      · simp [h2, show ¬ k + 3 ≤ j by omega]
    · rw [if_neg h1, show j - (k + 3) + (k + 3) = j by omega]
      simp [show k + 3 ≤ j by omega]
  · have hj : x.testBit j = false := Nat.testBit_lt_two_pow (Nat.lt_of_lt_of_le hx (Nat.pow_le_pow_right (by decide) (by omega)))
    by_cases h1 : j < k + 3
    · rw [if_pos h1, hj]
      simp
    · rw [if_neg h1, show j - (k + 3) + (k + 3) = j by omega, hj]
      simp
theorem or3 {k hi lo r : Nat} (hl : lo < 2 ^ k) (hr : r < 8) : (2 ^ (k + 3) * hi + lo) ||| (r * 2 ^ k) = 2 ^ (k + 3) * hi + (2 ^ k * r + lo) := by
  have e3 : 2 ^ (k + 3) = 2 ^ k * 8 := by rw [Nat.pow_add]
  have h1 : lo < 2 ^ (k + 3) := by omega
  have h2 : 2 ^ k * r + lo < 2 ^ (k + 3) := by
    have := Nat.mul_le_mul_left (2 ^ k) (show r + 1 ≤ 8 by omega)
    rw [Nat.mul_add] at this
    omega
  rw [Nat.two_pow_add_eq_or_of_lt h1, Nat.two_pow_add_eq_or_of_lt h2, Nat.two_pow_add_eq_or_of_lt hl, Nat.or_assoc, Nat.or_comm lo, Nat.mul_comm r]
theorem x_sent {h : Hp} {x g r : Nat} (hx : x < 32768) (hg : g < 5) (hr : r < 8) : F_X4_sent (nI x) (nI g) (nI r) h = some (nI (rep x g r)) := by
  unfold F_X4_sent F_X4_sent_b0
  rw [nl_7, shl3 hg (by omega), shl3 hg hr]
  congr 1
  have e8 : 8 ^ g = 2 ^ (3 * g) := by rw [Nat.pow_mul]
  have e9 : 8 ^ (g + 1) = 2 ^ (3 * g + 3) := by
    rw [show 3 * g + 3 = 3 * (g + 1) by omega, Nat.pow_mul]
  have em : nI (7 * 8 ^ g) ^^^ (-1 : Int32) = nI (4294967295 - 7 * 8 ^ g) := by
    have : g = 0 ∨ g = 1 ∨ g = 2 ∨ g = 3 ∨ g = 4 := by omega
    rcases this with rfl | rfl | rfl | rfl | rfl <;> decide
  have hM : ∀ j, j < 32 → (4294967295 - 7 * 8 ^ g).testBit j = (decide (j < 3 * g) || decide (3 * g + 3 ≤ j)) := by
    have : g = 0 ∨ g = 1 ∨ g = 2 ∨ g = 3 ∨ g = 4 := by omega
    rcases this with rfl | rfl | rfl | rfl | rfl <;> decide +kernel
  rw [em, fa_and, clr hM (by omega), fa_or, e8, or3 (Nat.mod_lt _ (Nat.two_pow_pos _)) hr]
  unfold rep
  rw [e8, e9]
  congr 1
  have : 2 ^ (3 * g + 3) = 2 ^ (3 * g) * 8 := by rw [Nat.pow_add]
  rw [this, Nat.mul_add, Nat.mul_assoc]
  omega
