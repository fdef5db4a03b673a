/-! TWO SEARCHES: one also goes to F, and stops there -/
def okF (ok : Nat → Bool) (F y : Nat) : Bool := ok y || decide (y = F)
section BFS2
variable {ok : Nat → Bool} {nb : Nat → List Nat} {N T F : Nat}
theorem okF_n {y : Nat} (h : y ≠ F) : okF ok F y = ok y := by
  unfold okF
  rw [decide_eq_false h, Bool.or_false]
theorem okF_F : okF ok F F = true := by
  unfold okF
  rw [decide_eq_true rfl, Bool.or_true]
theorem okF_or {y : Nat} (h : okF ok F y = true) : ok y = true ∨ y = F := by
  unfold okF at h
  rw [Bool.or_eq_true] at h
  exact h.imp id of_decide_eq_true
theorem fold_far {v : Nat} {y d : Nat} : ∀ (ys : List Nat) {S : BS}, S.1 y = some d → (ys.foldl (bst ok v) S).1 y = some d
  | [], _, h => h
  | z :: ys, S, h => fold_far ys (by
    unfold bst
    by_cases p : ok z = true ∧ S.1 z = none
    · rw [if_pos p]
      show va_up S.1 z (some v) y = some d
      rw [va_n _ _ _ _ (fun q => by rw [q, p.2] at h; cases h)]
      exact h
    · rw [if_neg p]
      exact h)
theorem fold_new {v : Nat} {y d : Nat} : ∀ (ys : List Nat) {S : BS}, S.1 y = none → (ys.foldl (bst ok v) S).1 y = some d → d = v ∧ y ∈ ys ∧ ok y = true
  | [], S, h, e => by
    have e' : S.1 y = some d := e
    rw [h] at e'
    cases e'
  | z :: ys, S, h, e => by
    have e' : (ys.foldl (bst ok v) (bst ok v S z)).1 y = some d := e
    by_cases q : y = z
    · subst q
      by_cases p : ok y = true
      · have s1 : (bst ok v S y).1 y = some v := by
          unfold bst
          rw [if_pos ⟨p, h⟩]
          exact va_e _ _ _
        rw [fold_far ys s1] at e'
        cases e'
        exact ⟨rfl, by simp, p⟩
      · have s1 : bst ok v S y = S := by
          unfold bst
          rw [if_neg (fun z => p z.1)]
        rw [s1] at e'
        obtain ⟨a, b, c⟩ := fold_new ys h e'
        exact ⟨a, by simp [b], c⟩
    · have s1 : (bst ok v S z).1 y = none := by
        unfold bst
        by_cases p : ok z = true ∧ S.1 z = none
        · rw [if_pos p]
          show va_up S.1 z (some v) y = none
          rw [va_n _ _ _ _ q]
          exact h
        · rw [if_neg p]
          exact h
      obtain ⟨a, b, c⟩ := fold_new ys s1 e'
      exact ⟨a, by simp [b], c⟩
theorem fold_eq {v : Nat} : ∀ (ys : List Nat) {S : BS}, (ys.foldl (bst (okF ok F) v) S).1 F = none → ys.foldl (bst (okF ok F) v) S = ys.foldl (bst ok v) S
  | [], _, _ => rfl
  | z :: ys, S, h => by
    have h' : (ys.foldl (bst (okF ok F) v) (bst (okF ok F) v S z)).1 F = none := h
    have e : bst (okF ok F) v S z = bst ok v S z := by
      by_cases q : z = F
      · subst q
        cases c : S.1 z with
        | none =>
          have s1 : (bst (okF ok z) v S z).1 z = some v := by
            unfold bst
            rw [if_pos ⟨okF_F, c⟩]
            exact va_e _ _ _
          rw [fold_far ys s1] at h'
          cases h'
        | some d =>
          unfold bst
          rw [if_neg (fun z => by rw [c] at z; cases z.2), if_neg (fun z => by rw [c] at z; cases z.2)]
      · unfold bst
        rw [okF_n q]
    show ys.foldl (bst (okF ok F) v) (bst (okF ok F) v S z) = ys.foldl (bst ok v) (bst ok v S z)
    rw [fold_eq ys h', e]
theorem fold_ag {v : Nat} : ∀ (ys : List Nat) {S R : BS}, (∀ o, o ≠ F → S.1 o = R.1 o) → ∀ o, o ≠ F → (ys.foldl (bst (okF ok F) v) S).1 o = (ys.foldl (bst ok v) R).1 o
  | [], _, _, h => h
  | z :: ys, S, R, h => fold_ag ys (fun o ho => by
    by_cases q : z = F
    · subst q
      have a1 : (bst (okF ok z) v S z).1 o = S.1 o := by
        unfold bst
        by_cases p : okF ok z z = true ∧ S.1 z = none
        · rw [if_pos p]
          exact va_n _ _ _ _ ho
        · rw [if_neg p]
      have a2 : (bst ok v R z).1 o = R.1 o := by
        unfold bst
        by_cases p : ok z = true ∧ R.1 z = none
        · rw [if_pos p]
          exact va_n _ _ _ _ ho
        · rw [if_neg p]
      rw [a1, a2]
      exact h o ho
    · unfold bst
      rw [okF_n q, h z q]
      by_cases p : ok z = true ∧ R.1 z = none
      · rw [if_pos p, if_pos p]
        show va_up S.1 z (some v) o = va_up R.1 z (some v) o
        by_cases e : o = z
        · subst e
          rw [va_e, va_e]
        · rw [va_n _ _ _ _ e, va_n _ _ _ _ e]
          exact h o ho
      · rw [if_neg p, if_neg p]
        exact h o ho)
theorem run_eq (hT : T < N) (hn : ∀ x y, x < N → y ∈ nb x → y < N) : ∀ i, (bRun (okF ok F) nb T i).1 F = none → bRun (okF ok F) nb T i = bRun ok nb T i
  | 0, _ => rfl
  | i + 1, h => by
    have h0 : (bRun (okF ok F) nb T i).1 F = none := by
      cases c : (bRun (okF ok F) nb T i).1 F with
      | none => rfl
      | some d =>
        have := (bRun_x (ok := okF ok F) hT hn i 1).1.2.2 _ _ c
        rw [h] at this
        cases this
    have ih := run_eq hT hn i h0
    by_cases p : i < (bRun (okF ok F) nb T i).2.2
    · have p2 := p
      rw [ih] at p2
      rw [bRun_s p] at h ⊢
      rw [bRun_s p2]
      unfold bK at h ⊢
      rw [fold_eq _ h, ih]
    · have p2 := p
      rw [ih] at p2
      rw [bRun_e p, bRun_e p2, ih]
theorem run_fin {k : Nat} (h : ¬ k < (bRun ok nb T k).2.2) : ∀ m, bRun ok nb T (k + m) = bRun ok nb T k
  | 0 => rfl
  | m + 1 => by
    have ih := run_fin h m
    rw [show k + (m + 1) = k + m + 1 by omega, bRun_e (by rw [ih]; omega), ih]
theorem fin_eq {k K : Nat} (h1 : ¬ k < (bRun ok nb T k).2.2) (h2 : ¬ K < (bRun ok nb T K).2.2) : bRun ok nb T k = bRun ok nb T K := by
  rcases Nat.le_total k K with q | q
  · obtain ⟨m, rfl⟩ : ∃ m, K = k + m := ⟨K - k, by omega⟩
    exact (run_fin h1 m).symm
  · obtain ⟨m, rfl⟩ : ∃ m, k = K + m := ⟨k - K, by omega⟩
    exact run_fin h2 m
theorem bV_ok {k : Nat} {S : BS} (v : bV ok nb N T k S) (oT : ok T = true) {j : Nat} (hj : j < S.2.2) : ok (S.2.1 j) = true := by
  by_cases q : j = 0
  · subst q
    rw [v.1.2.1]
    exact oT
  · obtain ⟨-, -, -, -, h⟩ := v.2.2.2.2.2.2 j (by omega) hj
    exact h
/-- F is not reached -/
theorem two_no (hT : T < N) (hn : ∀ x y, x < N → y ∈ nb x → y < N) (oT : ok T = true) (sym : ∀ x p, (ok x = true ∨ x = F) → ok p = true → (x ∈ nb p ↔ p ∈ nb x)) {i K : Nat} (hi : ¬ i < (bRun (okF ok F) nb T i).2.2) (hF : (bRun (okF ok F) nb T i).1 F = none) (hK : ¬ K < (bRun ok nb T K).2.2) {o : Nat} (ho : o ∈ nb F) : (bRun ok nb T K).1 o = none := by
  have e := run_eq hT hn i hF
  have hi2 := hi
  rw [e] at hi2
  rw [← fin_eq hi2 hK]
  cases c : (bRun ok nb T i).1 o with
  | none => rfl
  | some d =>
    obtain ⟨v, -⟩ := bRun_v (ok := ok) hT hn i
    obtain ⟨j, hj, ej⟩ := v.2.2.1 _ _ c
    have oo : ok o = true := by
      rw [← ej]
      exact bV_ok v oT hj
    have fo : F ∈ nb o := (sym F o (Or.inr rfl) oo).mpr ho
    obtain ⟨-, cl⟩ := bRun_v (ok := okF ok F) hT hn i
    rw [e] at cl hF
    exact absurd hF (cl j (by omega) hj F (by rw [ej]; exact fo) okF_F)
/-- F is reached -/
theorem two_yes (hT : T < N) (hn : ∀ x y, x < N → y ∈ nb x → y < N) (oT : ok T = true) (sym : ∀ x p, (ok x = true ∨ x = F) → ok p = true → (x ∈ nb p ↔ p ∈ nb x)) {k K D : Nat} (hk : k < (bRun (okF ok F) nb T k).2.2) (hF : (bRun (okF ok F) nb T k).1 F = none) (hD : (bRun (okF ok F) nb T (k + 1)).1 F = some D) (hK : ¬ K < (bRun ok nb T K).2.2) :
    0 < D ∧ (∀ o d, o ∈ nb F → (bRun ok nb T K).1 o = some d → D ≤ d + 1) ∧ (∃ o, o ∈ nb F ∧ o ≠ F ∧ (bRun ok nb T K).1 o = some (D - 1)) ∧ (∀ L o, L < D → ((bRun (okF ok F) nb T (k + 1)).1 o = some L ↔ (bRun ok nb T K).1 o = some L)) ∧ (∀ x L, L < D → (bRun (okF ok F) nb T (k + 1)).1 x = some (L + 1) → ∃ o, o ∈ nb x ∧ (bRun (okF ok F) nb T (k + 1)).1 o = some L) := by
  have e := run_eq hT hn k hF
  have hk2 : k < (bRun ok nb T k).2.2 := by
    rw [← e]
    exact hk
  have hF2 : (bRun ok nb T k).1 F = none := by
    rw [← e]
    exact hF
  obtain ⟨v, -⟩ := bRun_v (ok := ok) hT hn k
  have s1 : bRun ok nb T (k + 1) = (nb ((bRun ok nb T k).2.1 k)).foldl (bst ok (dd (bRun ok nb T k) k + 1)) (bRun ok nb T k) := bRun_s hk2
  have s2 : bRun (okF ok F) nb T (k + 1) = (nb ((bRun ok nb T k).2.1 k)).foldl (bst (okF ok F) (dd (bRun ok nb T k) k + 1)) (bRun ok nb T k) := by
    rw [bRun_s hk]
    unfold bK
    rw [e]
  rw [s2] at hD
  obtain ⟨d1, d2, -⟩ := fold_new _ hF2 hD
  have oq : ok ((bRun ok nb T k).2.1 k) = true := bV_ok v oT hk2
  have hKk : k + 1 ≤ K := by
    by_cases q : K ≤ k
    · obtain ⟨m, rfl⟩ : ∃ m, k = K + m := ⟨k - K, by omega⟩
      have := run_fin hK m
      rw [this] at hk2
      omega
    · omega
  obtain ⟨m, rfl⟩ : ∃ m, K = k + 1 + m := ⟨K - (k + 1), by omega⟩
  obtain ⟨xx, nw⟩ := bRun_x (ok := ok) hT hn (k + 1) m
  have x1 : bX (bRun ok nb T k) (bRun ok nb T (k + 1)) := (bRun_x (ok := ok) hT hn k 1).1
  have x2 := bX_t x1 xx
  obtain ⟨vK, -⟩ := bRun_v (ok := ok) hT hn (k + 1 + m)
  obtain ⟨v1, -⟩ := bRun_v (ok := ok) hT hn (k + 1)
  have dk : dd (bRun ok nb T (k + 1 + m)) k = dd (bRun ok nb T k) k := bV_dd v x2 hk2
  have b4 : ∀ L o, L < D → ((bRun (okF ok F) nb T (k + 1)).1 o = some L ↔ (bRun ok nb T (k + 1 + m)).1 o = some L) := by
    intro L o hL
    have ag := fold_ag (ok := ok) (F := F) (v := dd (bRun ok nb T k) k + 1) (nb ((bRun ok nb T k).2.1 k)) (S := bRun ok nb T k) (R := bRun ok nb T k) (fun _ _ => rfl)
    constructor
    · intro h
      have hoF : o ≠ F := fun q => by
        rw [s2, q, hD] at h
        cases h
        omega
      rw [s2, ag o hoF, ← s1] at h
      exact xx.2.2 _ _ h
    · intro h
      obtain ⟨j, hj, ej⟩ := vK.2.2.1 _ _ h
      by_cases q : j < (bRun ok nb T (k + 1)).2.2
      · have h1 := bV_d v1 q
        have h2 := xx.2.2 _ _ h1
        have ejj := xx.2.1 j q
        rw [← ejj, ej, h] at h2
        have h3 : (bRun ok nb T (k + 1)).1 o = some L := by
          rw [h2, ← h1, ← ejj, ej]
        have hoF : o ≠ F := fun q2 => by
          rw [q2, s1] at h3
          have := (fold_new _ hF2 h3).1
          omega
        rw [s2, ag o hoF, ← s1]
        exact h3
      · have := nw k j (by have := x1.1; omega) (by omega) (by omega) hj
        have e1 : dd (bRun ok nb T (k + 1)) k = dd (bRun ok nb T k) k := bV_dd v x1 hk2
        have e2 : dd (bRun ok nb T (k + 1 + m)) j = L := by
          have := bV_d vK hj
          rw [ej, h] at this
          cases this
          rfl
        omega
  refine ⟨by omega, fun o d ho h => ?_, ⟨(bRun ok nb T k).2.1 k, (sym F _ (Or.inr rfl) oq).mp d2, fun q => ?_, ?_⟩, b4, fun x L hL h => ?_⟩
  · obtain ⟨j, hj, ej⟩ := vK.2.2.1 _ _ h
    have oo : ok o = true := by
      rw [← ej]
      exact bV_ok vK oT hj
    have fo : F ∈ nb o := (sym F o (Or.inr rfl) oo).mpr ho
    have hjk : k ≤ j := by
      by_cases q : k ≤ j
      · exact q
      · have hjl : j < (bRun ok nb T k).2.2 := by omega
        obtain ⟨-, cl⟩ := bRun_v (ok := okF ok F) hT hn k
        rw [e] at cl
        have := x2.2.1 j hjl
        exact absurd hF2 (cl j (by omega) hjl F (by rw [← this, ej]; exact fo) okF_F)
    have mo := vK.2.2.2.2.1 k j hjk hj
    have e2 : dd (bRun ok nb T (k + 1 + m)) j = d := by
      have := bV_d vK hj
      rw [ej, h] at this
      cases this
      rfl
    omega
  · have := bV_d v hk2
    rw [q, hF2] at this
    cases this
  · have := x2.2.2 _ _ (bV_d v hk2)
    rw [this, d1]
    rfl
  · obtain ⟨vF, -⟩ := bRun_v (ok := okF ok F) hT hn (k + 1)
    obtain ⟨j, hj, ej⟩ := vF.2.2.1 _ _ h
    have dj : dd (bRun (okF ok F) nb T (k + 1)) j = L + 1 := by
      have := bV_d vF hj
      rw [ej, h] at this
      exact (Option.some.inj this).symm
    have j0 : 0 < j := by
      by_cases q : 0 < j
      · exact q
      · have := bV_dj vF hj
        omega
    obtain ⟨j', a1, a2, a3, a4⟩ := vF.2.2.2.2.2.2 j j0 hj
    have hj' : j' < (bRun (okF ok F) nb T (k + 1)).2.2 := by omega
    have fo : (bRun (okF ok F) nb T (k + 1)).1 ((bRun (okF ok F) nb T (k + 1)).2.1 j') = some L := by
      rw [bV_d vF hj']
      congr 1
      omega
    refine ⟨_, ?_, fo⟩
    rw [ej] at a3 a4
    have oF : okF ok F ((bRun (okF ok F) nb T (k + 1)).2.1 j') = true := bV_ok vF (by unfold okF; rw [oT]; rfl) hj'
    have nF : (bRun (okF ok F) nb T (k + 1)).2.1 j' ≠ F := fun q => by
      rw [q, s2, hD] at fo
      cases fo
      omega
    rw [okF_n nF] at oF
    exact (sym x _ (okF_or a4) oF).mp a3
end BFS2
