/-! THE FEWEST STEPS: a search by breadth, without machine -/
abbrev BS := (Nat → Option Nat) × (Nat → Nat) × Nat
def bst (ok : Nat → Bool) (v : Nat) (S : BS) (y : Nat) : BS := if ok y = true ∧ S.1 y = none then (va_up S.1 y (some v), va_up S.2.1 S.2.2 y, S.2.2 + 1) else S
def dd (S : BS) (j : Nat) : Nat := (S.1 (S.2.1 j)).getD 0
def bIn (T : Nat) : BS := (va_up (fun _ => none) T (some 0), fun _ => T, 1)
def bK (ok : Nat → Bool) (nb : Nat → List Nat) (k : Nat) (S : BS) : BS := (nb (S.2.1 k)).foldl (bst ok (dd S k + 1)) S
def bRun (ok : Nat → Bool) (nb : Nat → List Nat) (T : Nat) : Nat → BS
  | 0 => bIn T
  | k + 1 => if k < (bRun ok nb T k).2.2 then bK ok nb k (bRun ok nb T k) else bRun ok nb T k
section BFS
variable {ok : Nat → Bool} {nb : Nat → List Nat} {N T : Nat}
theorem bRun_s {k : Nat} (h : k < (bRun ok nb T k).2.2) : bRun ok nb T (k + 1) = bK ok nb k (bRun ok nb T k) := if_pos h
theorem bRun_e {k : Nat} (h : ¬ k < (bRun ok nb T k).2.2) : bRun ok nb T (k + 1) = bRun ok nb T k := if_neg h
/-- what holds while the k-th is looked at -/
def bV (ok : Nat → Bool) (nb : Nat → List Nat) (N T k : Nat) (S : BS) : Prop :=
  (0 < S.2.2 ∧ S.2.1 0 = T ∧ S.1 T = some 0) ∧
  (∀ j, j < S.2.2 → S.2.1 j < N ∧ ∃ d, S.1 (S.2.1 j) = some d ∧ d ≤ j) ∧
  (∀ y d, S.1 y = some d → ∃ j, j < S.2.2 ∧ S.2.1 j = y) ∧
  (∀ j j', j < j' → j' < S.2.2 → S.2.1 j ≠ S.2.1 j') ∧
  (∀ j j', j ≤ j' → j' < S.2.2 → dd S j ≤ dd S j') ∧
  (∀ j j', j < S.2.2 → j' < S.2.2 → k ≤ j' → dd S j ≤ dd S j' + 1) ∧
  (∀ j, 0 < j → j < S.2.2 → ∃ j', j' < j ∧ dd S j = dd S j' + 1 ∧ S.2.1 j ∈ nb (S.2.1 j') ∧ ok (S.2.1 j) = true)
/-- what was found stays -/
def bX (S S' : BS) : Prop := S.2.2 ≤ S'.2.2 ∧ (∀ j, j < S.2.2 → S'.2.1 j = S.2.1 j) ∧ ∀ y d, S.1 y = some d → S'.1 y = some d
theorem bX_r (S : BS) : bX S S := ⟨Nat.le_refl _, fun _ _ => rfl, fun _ _ h => h⟩
theorem bX_t {A B C : BS} (h1 : bX A B) (h2 : bX B C) : bX A C := ⟨Nat.le_trans h1.1 h2.1, fun j hj => (h2.2.1 j (Nat.lt_of_lt_of_le hj h1.1)).trans (h1.2.1 j hj), fun y d h => h2.2.2 y d (h1.2.2 y d h)⟩
theorem bV_dd {k : Nat} {S S' : BS} (v : bV ok nb N T k S) (x : bX S S') {j : Nat} (hj : j < S.2.2) : dd S' j = dd S j := by
  obtain ⟨-, d, hd, -⟩ := v.2.1 j hj
  unfold dd
  rw [x.2.1 j hj, x.2.2 _ _ hd, hd]
theorem bV_d {k : Nat} {S : BS} (v : bV ok nb N T k S) {j : Nat} (hj : j < S.2.2) : S.1 (S.2.1 j) = some (dd S j) := by
  obtain ⟨-, d, hd, -⟩ := v.2.1 j hj
  unfold dd
  rw [hd]
  rfl
theorem bV_dj {k : Nat} {S : BS} (v : bV ok nb N T k S) {j : Nat} (hj : j < S.2.2) : dd S j ≤ j := by
  obtain ⟨-, d, hd, hl⟩ := v.2.1 j hj
  unfold dd
  rw [hd]
  exact hl
theorem bV_all {k : Nat} {S : BS} (v : bV ok nb N T k S) : S.2.2 ≤ N := fb_holes N S.2.2 S.2.1 (fun i hi => (v.2.1 i hi).1) v.2.2.2.1
theorem bV_mono {k k2 : Nat} {S : BS} (v : bV ok nb N T k S) (h : k ≤ k2) : bV ok nb N T k2 S := ⟨v.1, v.2.1, v.2.2.1, v.2.2.2.1, v.2.2.2.2.1, fun j j' h1 h2 h3 => v.2.2.2.2.2.1 j j' h1 h2 (by omega), v.2.2.2.2.2.2⟩
/-- one neighbour -/
theorem bst_v {k : Nat} {S : BS} (v : bV ok nb N T k S) (hk : k < S.2.2) {y : Nat} (hy : y ∈ nb (S.2.1 k)) (hN : y < N) : bV ok nb N T k (bst ok (dd S k + 1) S y) ∧ bX S (bst ok (dd S k + 1) S y) ∧ (ok y = true → (bst ok (dd S k + 1) S y).1 y ≠ none) ∧ (∀ j, S.2.2 ≤ j → j < (bst ok (dd S k + 1) S y).2.2 → dd (bst ok (dd S k + 1) S y) j = dd S k + 1) := by
  by_cases p : ok y = true ∧ S.1 y = none
  · have e : bst ok (dd S k + 1) S y = (va_up S.1 y (some (dd S k + 1)), va_up S.2.1 S.2.2 y, S.2.2 + 1) := if_pos p
    have x : bX S (bst ok (dd S k + 1) S y) := by
      rw [e]
      refine ⟨by show S.2.2 ≤ S.2.2 + 1; omega, fun j hj => va_n _ _ _ _ (by omega), fun z d hz => ?_⟩
      show va_up S.1 y (some (dd S k + 1)) z = some d
      rw [va_n _ _ _ _ (fun q => by rw [q, p.2] at hz; cases hz)]
      exact hz
    have dn : dd (bst ok (dd S k + 1) S y) S.2.2 = dd S k + 1 := by
      rw [e]
      unfold dd
      show (va_up S.1 y _ (va_up S.2.1 S.2.2 y S.2.2)).getD 0 = _
      rw [va_e, va_e]
      rfl
    have dd' : ∀ j, j < S.2.2 → dd (bst ok (dd S k + 1) S y) j = dd S j := fun j hj => bV_dd v x hj
    have qn : (bst ok (dd S k + 1) S y).2.1 S.2.2 = y := by
      rw [e]
      exact va_e _ _ _
    have qo : ∀ j, j < S.2.2 → (bst ok (dd S k + 1) S y).2.1 j = S.2.1 j := x.2.1
    have al : (bst ok (dd S k + 1) S y).2.2 = S.2.2 + 1 := by rw [e]
    have fy : (bst ok (dd S k + 1) S y).1 y = some (dd S k + 1) := by
      rw [e]
      exact va_e _ _ _
    have kj := bV_dj v hk
    have cs : ∀ j, j < S.2.2 + 1 → j < S.2.2 ∨ j = S.2.2 := fun j hj => by omega
    refine ⟨⟨⟨by omega, (qo 0 v.1.1).trans v.1.2.1, x.2.2 _ _ v.1.2.2⟩, fun j hj => ?_, fun z d hz => ?_, fun j j' h1 h2 => ?_, fun j j' h1 h2 => ?_, fun j j' h1 h2 h3 => ?_, fun j h1 h2 => ?_⟩, x, (fun _ q => by rw [fy] at q; cases q), fun j h1 h2 => ?_⟩
    · rw [al] at hj
      rcases cs j hj with h1 | rfl
      · obtain ⟨a, d, b, c⟩ := v.2.1 j h1
        rw [qo j h1]
        exact ⟨a, d, x.2.2 _ _ b, c⟩
      · rw [qn]
        exact ⟨hN, _, fy, by omega⟩
    · by_cases q : z = y
      · exact ⟨S.2.2, by omega, by rw [qn, q]⟩
      · rw [e] at hz
        have hz' : S.1 z = some d := by
          have : va_up S.1 y (some (dd S k + 1)) z = some d := hz
          rw [va_n _ _ _ _ q] at this
          exact this
        obtain ⟨j, hj, ej⟩ := v.2.2.1 z d hz'
        exact ⟨j, by omega, by rw [qo j hj]; exact ej⟩
    · rw [al] at h2
      rcases cs j' h2 with h3 | rfl
      · rw [qo j (by omega), qo j' h3]
        exact v.2.2.2.1 j j' h1 h3
      · rw [qo j h1, qn]
        intro q
        have := bV_d v h1
        rw [q, p.2] at this
        cases this
    · rw [al] at h2
      rcases cs j' h2 with h3 | rfl
      · rw [dd' j (by omega), dd' j' h3]
        exact v.2.2.2.2.1 j j' h1 h3
      · rcases cs j (by omega) with h4 | rfl
        · rw [dd' j h4, dn]
          exact v.2.2.2.2.2.1 j k h4 hk (Nat.le_refl _)
        · exact Nat.le_refl _
    · rw [al] at h1 h2
      rcases cs j' h2 with h4 | rfl
      · rw [dd' j' h4]
        rcases cs j h1 with h5 | rfl
        · rw [dd' j h5]
          exact v.2.2.2.2.2.1 j j' h5 h4 h3
        · rw [dn]
          have := v.2.2.2.2.1 k j' h3 h4
          omega
      · rw [dn]
        rcases cs j h1 with h5 | rfl
        · rw [dd' j h5]
          have := v.2.2.2.2.2.1 j k h5 hk (Nat.le_refl _)
          omega
        · rw [dn]
          omega
    · rw [al] at h2
      rcases cs j h2 with h3 | rfl
      · obtain ⟨j', a, b, c, d⟩ := v.2.2.2.2.2.2 j h1 h3
        exact ⟨j', a, by rw [dd' j h3, dd' j' (by omega)]; exact b, by rw [qo j h3, qo j' (by omega)]; exact c, by rw [qo j h3]; exact d⟩
      · exact ⟨k, hk, by rw [dn, dd' k hk], by rw [qn, qo k hk]; exact hy, by rw [qn]; exact p.1⟩
    · rw [al] at h2
      have : j = S.2.2 := by omega
      subst this
      exact dn
  · have e : bst ok (dd S k + 1) S y = S := if_neg p
    rw [e]
    exact ⟨v, bX_r S, fun h1 h2 => p ⟨h1, h2⟩, fun j h1 h2 => absurd h2 (by omega)⟩
/-- some neighbours -/
theorem bst_f {k : Nat} : ∀ (ys : List Nat) {S : BS} (v : bV ok nb N T k S) (hk : k < S.2.2) {w : Nat} (hw : w = dd S k + 1) (hy : ∀ y, y ∈ ys → y ∈ nb (S.2.1 k) ∧ y < N), bV ok nb N T k (ys.foldl (bst ok w) S) ∧ bX S (ys.foldl (bst ok w) S) ∧ (∀ y, y ∈ ys → ok y = true → (ys.foldl (bst ok w) S).1 y ≠ none) ∧ (∀ j, S.2.2 ≤ j → j < (ys.foldl (bst ok w) S).2.2 → dd (ys.foldl (bst ok w) S) j = w)
  | [], S, v, hk, w, hw, hy => ⟨v, bX_r S, fun y q => absurd q (by simp), fun j h1 h2 => absurd h2 (by show ¬ j < S.2.2; omega)⟩
  | y :: ys, S, v, hk, w, hw, hy => by
    subst hw
    obtain ⟨a1, a2, a3, a4⟩ := bst_v v hk (hy y (by simp)).1 (hy y (by simp)).2
    have ek := bV_dd v a2 hk
    obtain ⟨b1, b2, b3, b4⟩ := bst_f ys a1 (Nat.lt_of_lt_of_le hk a2.1) (w := dd S k + 1) (by rw [ek]) (fun z hz => by
      rw [a2.2.1 k hk]
      exact hy z (by simp [hz]))
    refine ⟨b1, bX_t a2 b2, fun z hz oz => ?_, fun j h1 h2 => ?_⟩
    · rcases List.mem_cons.mp hz with rfl | hz
      · intro q
        have h3 := a3 oz
        cases e : (bst ok (dd S k + 1) S z).1 z with
        | none => exact h3 e
        | some d =>
          have := b2.2.2 _ _ e
          have q' : (ys.foldl (bst ok (dd S k + 1)) (bst ok (dd S k + 1) S z)).1 z = none := q
          rw [this] at q'
          cases q'
      · exact b3 z hz oz
    · by_cases p : j < (bst ok (dd S k + 1) S y).2.2
      · exact (bV_dd a1 b2 p).trans (a4 j h1 p)
      · exact b4 j (by omega) h2
theorem bIn_v (hT : T < N) : bV ok nb N T 0 (bIn T) := by
  have d0 : ∀ j, dd (bIn T) j = 0 := fun j => by
    show (va_up (fun _ => none) T (some 0) T).getD 0 = 0
    rw [va_e]
    rfl
  have hT0 : (bIn T).1 T = some 0 := by
    show va_up (fun _ => none) T (some 0) T = some 0
    exact va_e _ _ _
  refine ⟨⟨Nat.zero_lt_one, rfl, hT0⟩, fun j hj => ⟨hT, 0, hT0, Nat.zero_le _⟩, fun y d hy => ⟨0, Nat.zero_lt_one, ?_⟩, fun j j' h1 h2 => ?_, fun j j' _ _ => ?_, fun j j' _ _ _ => ?_, fun j h1 h2 => ?_⟩
  · by_cases q : y = T
    · exact q.symm
    · have : va_up (fun _ => none) T (some 0) y = some d := hy
      rw [va_n _ _ _ _ q] at this
      cases this
  · have : j' < 1 := h2
    omega
  · rw [d0, d0]
    exact Nat.le_refl _
  · rw [d0, d0]
    omega
  · have : j < 1 := h2
    omega
/-- all along -/
theorem bRun_v (hT : T < N) (hn : ∀ x y, x < N → y ∈ nb x → y < N) : ∀ k, bV ok nb N T k (bRun ok nb T k) ∧ (∀ j, j < k → j < (bRun ok nb T k).2.2 → ∀ y, y ∈ nb ((bRun ok nb T k).2.1 j) → ok y = true → (bRun ok nb T k).1 y ≠ none)
  | 0 => ⟨bIn_v hT, fun j hj => absurd hj (by omega)⟩
  | k + 1 => by
    obtain ⟨v, c⟩ := bRun_v hT hn k
    by_cases p : k < (bRun ok nb T k).2.2
    · rw [bRun_s p]
      obtain ⟨b1, b2, b3, -⟩ := bst_f (nb ((bRun ok nb T k).2.1 k)) v p rfl (fun y hy => ⟨hy, hn _ _ (v.2.1 k p).1 hy⟩)
      refine ⟨bV_mono b1 (by omega), fun j h1 h2 y hy oy => ?_⟩
      have hj : j < (bRun ok nb T k).2.2 := by omega
      have e := b2.2.1 j hj
      have hy' : y ∈ nb ((bRun ok nb T k).2.1 j) := by
        rw [← e]
        exact hy
      by_cases q : j = k
      · subst q
        exact b3 y hy' oy
      · cases z : (bRun ok nb T k).1 y with
        | none => exact absurd z (c j (by omega) hj y hy' oy)
        | some d =>
          have := b2.2.2 _ _ z
          intro w
          have w' : ((nb ((bRun ok nb T k).2.1 k)).foldl (bst ok (dd (bRun ok nb T k) k + 1)) (bRun ok nb T k)).1 y = none := w
          rw [this] at w'
          cases w'
    · rw [bRun_e p]
      exact ⟨bV_mono v (by omega), fun j h1 h2 => c j (by omega) h2⟩
/-- from k on nothing is lost, and what is new lies behind the k-th -/
theorem bRun_x (hT : T < N) (hn : ∀ x y, x < N → y ∈ nb x → y < N) (k : Nat) : ∀ m, bX (bRun ok nb T k) (bRun ok nb T (k + m)) ∧ (∀ i j, i < (bRun ok nb T k).2.2 → i ≤ k → (bRun ok nb T k).2.2 ≤ j → j < (bRun ok nb T (k + m)).2.2 → dd (bRun ok nb T k) i + 1 ≤ dd (bRun ok nb T (k + m)) j)
  | 0 => ⟨bX_r _, fun i j h1 h2 h3 h4 => absurd h4 (by show ¬ j < (bRun ok nb T k).2.2; omega)⟩
  | m + 1 => by
    obtain ⟨x, nw⟩ := bRun_x hT hn k m
    rw [show k + (m + 1) = k + m + 1 by omega]
    obtain ⟨v, -⟩ := bRun_v (ok := ok) hT hn (k + m)
    by_cases p : k + m < (bRun ok nb T (k + m)).2.2
    · rw [bRun_s p]
      obtain ⟨b1, b2, b3, b4⟩ := bst_f (nb ((bRun ok nb T (k + m)).2.1 (k + m))) v p rfl (fun y hy => ⟨hy, hn _ _ (v.2.1 _ p).1 hy⟩)
      refine ⟨bX_t x b2, fun i j h1 h2 h3 h4 => ?_⟩
      have v0 := (bRun_v (ok := ok) hT hn k).1
      by_cases q : j < (bRun ok nb T (k + m)).2.2
      · have := nw i j h1 h2 h3 q
        have e := bV_dd v b2 q
        show dd (bRun ok nb T k) i + 1 ≤ dd ((nb ((bRun ok nb T (k + m)).2.1 (k + m))).foldl (bst ok (dd (bRun ok nb T (k + m)) (k + m) + 1)) (bRun ok nb T (k + m))) j
        rw [e]
        exact this
      · have e := b4 j (by omega) h4
        show dd (bRun ok nb T k) i + 1 ≤ dd ((nb ((bRun ok nb T (k + m)).2.1 (k + m))).foldl (bst ok (dd (bRun ok nb T (k + m)) (k + m) + 1)) (bRun ok nb T (k + m))) j
        rw [e]
        have e2 := bV_dd v0 x h1
        have := v.2.2.2.2.1 i (k + m) (by omega) p
        omega
    · rw [bRun_e p]
      exact ⟨x, nw⟩
end BFS
