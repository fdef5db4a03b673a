/-! TEXTS: the bytes b, n of them -/
section SCANP
variable {b : Nat → Int32} {n : Nat}
/-- as long as f holds, from p, m bytes at most -/
def tRun (f : Int32 → Bool) (b : Nat → Int32) : Nat → Nat → Nat
  | 0, p => p
  | m + 1, p => if f (b p) = true then tRun f b m (p + 1) else p
theorem tRun_ge (f : Int32 → Bool) (b : Nat → Int32) : ∀ m p, p ≤ tRun f b m p ∧ tRun f b m p ≤ p + m
  | 0, p => ⟨Nat.le_refl p, Nat.le_refl p⟩
  | m + 1, p => by
    have := tRun_ge f b m (p + 1)
    show p ≤ (if f (b p) = true then tRun f b m (p + 1) else p) ∧ (if f (b p) = true then tRun f b m (p + 1) else p) ≤ p + (m + 1)
    by_cases e : f (b p) = true
    · rw [if_pos e]
      omega
    · rw [if_neg e]
      omega
theorem tRun_in (f : Int32 → Bool) (b : Nat → Int32) : ∀ m p k, p ≤ k → k < tRun f b m p → f (b k) = true
  | 0, p, k, h1, h2 => by
    have : k < p := h2
    omega
  | m + 1, p, k, h1, h2 => by
    by_cases e : f (b p) = true
    · have e2 : tRun f b (m + 1) p = tRun f b m (p + 1) := if_pos e
      rw [e2] at h2
      by_cases q : k = p
      · rw [q]
        exact e
      · exact tRun_in f b m (p + 1) k (by omega) h2
    · have e2 : tRun f b (m + 1) p = p := if_neg e
      omega
theorem tRun_out (f : Int32 → Bool) (b : Nat → Int32) : ∀ m p, tRun f b m p < p + m → f (b (tRun f b m p)) = false
  | 0, p, h => by
    have : p < p := h
    omega
  | m + 1, p, h => by
    by_cases e : f (b p) = true
    · have e2 : tRun f b (m + 1) p = tRun f b m (p + 1) := if_pos e
      rw [e2] at h ⊢
      exact tRun_out f b m (p + 1) (by omega)
    · have e2 : tRun f b (m + 1) p = p := if_neg e
      rw [e2]
      exact Bool.eq_false_iff.mpr e
/-- from p on -/
def tTo (f : Int32 → Bool) (b : Nat → Int32) (n p : Nat) : Nat := tRun f b (n - p) p
theorem tTo_ge (f : Int32 → Bool) (b : Nat → Int32) (n p : Nat) : p ≤ tTo f b n p := (tRun_ge f b _ p).1
theorem tTo_le (f : Int32 → Bool) (b : Nat → Int32) {n p : Nat} (h : p ≤ n) : tTo f b n p ≤ n := by
  have := (tRun_ge f b (n - p) p).2
  unfold tTo
  omega
theorem tTo_in (f : Int32 → Bool) (b : Nat → Int32) (n p k : Nat) (h1 : p ≤ k) (h2 : k < tTo f b n p) : f (b k) = true := tRun_in f b _ p k h1 h2
theorem tTo_out (f : Int32 → Bool) (b : Nat → Int32) {n p : Nat} (h : p ≤ n) (h2 : tTo f b n p < n) : f (b (tTo f b n p)) = false := tRun_out f b _ p (by unfold tTo at h2; omega)
/-- how a loop finds it -/
theorem tTo_uniq (f : Int32 → Bool) (b : Nat → Int32) {n p e : Nat} (h1 : p ≤ e) (h2 : e ≤ n) (h3 : ∀ k, p ≤ k → k < e → f (b k) = true) (h4 : e < n → f (b e) = false) : tTo f b n p = e := by
  have g1 := tTo_ge f b n p
  have g2 := tTo_le f b (n := n) (p := p) (by omega)
  by_cases q : tTo f b n p < e
  · have := tTo_out f b (n := n) (p := p) (by omega) (by omega)
    rw [h3 _ g1 q] at this
    cases this
  · by_cases q2 : e < tTo f b n p
    · have := tTo_in f b n p e h1 q2
      rw [h4 (by omega)] at this
      cases this
    · omega
theorem tTo_self (f : Int32 → Bool) (b : Nat → Int32) {n p : Nat} (h : p ≤ n) (h4 : p < n → f (b p) = false) : tTo f b n p = p := tTo_uniq f b (Nat.le_refl p) h (fun k h1 h2 => absurd h2 (by omega)) h4
theorem tTo_pos (f : Int32 → Bool) (b : Nat → Int32) {n p : Nat} (h : p < n) (h4 : f (b p) = true) : p < tTo f b n p := by
  have g1 := tTo_ge f b n p
  by_cases q : tTo f b n p = p
  · have := tTo_out f b (n := n) (p := p) (by omega) (by omega)
    rw [q, h4] at this
    cases this
  · omega
theorem tTo_first (f : Int32 → Bool) (b : Nat → Int32) {n p : Nat} (h : p < tTo f b n p) : f (b p) = true := tTo_in f b n p p (Nat.le_refl p) h
def isBl (v : Int32) : Bool := decide (v = 32)
def isLe (v : Int32) : Bool := decide (97 ≤ v ∧ v ≤ 122)
def isDi (v : Int32) : Bool := decide (48 ≤ v ∧ v ≤ 57)
def tS (b : Nat → Int32) (n p : Nat) : Nat := tTo isBl b n p
def tW (b : Nat → Int32) (n p : Nat) : Nat := tTo isLe b n p
def tD (b : Nat → Int32) (n p : Nat) : Nat := tTo isDi b n p
theorem le_di {v : Int32} (h : isLe v = true) : isDi v = false := by
  unfold isLe at h
  unfold isDi
  have h := of_decide_eq_true h
  refine decide_eq_false (fun q => ?_)
  have h1 := Int32.le_iff_toInt_le.mp h.1
  have h2 := Int32.le_iff_toInt_le.mp q.2
  have c1 : (97 : Int32).toInt = 97 := by decide
  have c2 : (57 : Int32).toInt = 57 := by decide
  omega
/-- the thing at q: what sort, and where it ends -/
def tK (b : Nat → Int32) (n q : Nat) : Nat := if q < tW b n q then 1 else if q < tD b n q then 2 else if q < n then 3 else 0
def tE (b : Nat → Int32) (n q : Nat) : Nat := if q < tW b n q then tW b n q else if q < tD b n q then tD b n q else min n (q + 1)
theorem tE_le {q : Nat} (h : q ≤ n) : tE b n q ≤ n := by
  have h1 := tTo_le isLe b h
  have h2 := tTo_le isDi b h
  unfold tE
  by_cases c1 : q < tW b n q
  · rw [if_pos c1]
    exact h1
  · rw [if_neg c1]
    by_cases c2 : q < tD b n q
    · rw [if_pos c2]
      exact h2
    · rw [if_neg c2]
      exact Nat.min_le_left n (q + 1)
theorem tS_le {p : Nat} (h : p ≤ n) : tS b n p ≤ n := tTo_le isBl b h
theorem tS_idem {p : Nat} (h : p ≤ n) : tS b n (tS b n p) = tS b n p := tTo_self isBl b (tS_le h) (fun q => tTo_out isBl b h q)
/-- the next thing's begin -/
def tN (b : Nat → Int32) (n q : Nat) : Nat := tS b n (tE b n q)
theorem tN_le {q : Nat} (h : q ≤ n) : tN b n q ≤ n := tS_le (tE_le h)
theorem tK_1 {q : Nat} : tK b n q = 1 ↔ q < tW b n q := by
  unfold tK
  by_cases c1 : q < tW b n q
  · rw [if_pos c1]
    exact ⟨fun _ => c1, fun _ => rfl⟩
  · rw [if_neg c1]
    refine ⟨fun h => ?_, fun h => absurd h c1⟩
    by_cases c2 : q < tD b n q
    · rw [if_pos c2] at h
      cases h
    · rw [if_neg c2] at h
      by_cases c3 : q < n
      · rw [if_pos c3] at h
        cases h
      · rw [if_neg c3] at h
        cases h
theorem tK_d {q : Nat} (h : q ≤ n) (c2 : q < tD b n q) : ¬ q < tW b n q := fun c1 => by
  have h1 := tTo_first isLe b c1
  have h2 := tTo_first isDi b c2
  rw [le_di h1] at h2
  cases h2
theorem tK_2 {q : Nat} (h : q ≤ n) : tK b n q = 2 ↔ q < tD b n q := by
  unfold tK
  by_cases c2 : q < tD b n q
  · rw [if_neg (tK_d h c2), if_pos c2]
    exact ⟨fun _ => c2, fun _ => rfl⟩
  · refine ⟨fun h => ?_, fun h => absurd h c2⟩
    by_cases c1 : q < tW b n q
    · rw [if_pos c1] at h
      cases h
    · rw [if_neg c1, if_neg c2] at h
      by_cases c3 : q < n
      · rw [if_pos c3] at h
        cases h
      · rw [if_neg c3] at h
        cases h
theorem tK_0 {q : Nat} (h : q ≤ n) : tK b n q = 0 ↔ q = n := by
  have h1 := tTo_le isLe b h
  have h2 := tTo_le isDi b h
  have h1' : tW b n q ≤ n := h1
  have h2' : tD b n q ≤ n := h2
  unfold tK
  by_cases c : q = n
  · rw [if_neg (by omega), if_neg (by omega), if_neg (by omega)]
    exact ⟨fun _ => c, fun _ => rfl⟩
  · refine ⟨fun e => ?_, fun e => absurd e c⟩
    by_cases c1 : q < tW b n q
    · rw [if_pos c1] at e
      cases e
    · rw [if_neg c1] at e
      by_cases c2 : q < tD b n q
      · rw [if_pos c2] at e
        cases e
      · rw [if_neg c2, if_pos (by omega)] at e
        cases e
/-- a sign that is neither letter nor digit -/
theorem tK_3 {q : Nat} {c : Int32} (h : q ≤ n) (hl : isLe c = false) (hd : isDi c = false) : (tK b n q = 3 ∧ b q = c) ↔ (q < n ∧ b q = c) := by
  constructor
  · rintro ⟨h1, h2⟩
    refine ⟨?_, h2⟩
    by_cases c3 : q < n
    · exact c3
    · have := (tK_0 (b := b) h).mpr (by omega)
      omega
  · rintro ⟨h1, h2⟩
    refine ⟨?_, h2⟩
    have c1 : ¬ q < tW b n q := fun e => by
      have := tTo_first isLe b e
      rw [h2, hl] at this
      cases this
    have c2 : ¬ q < tD b n q := fun e => by
      have := tTo_first isDi b e
      rw [h2, hd] at this
      cases this
    unfold tK
    rw [if_neg c1, if_neg c2, if_pos h1]
theorem tE_3 {q : Nat} {c : Int32} (hl : isLe c = false) (hd : isDi c = false) (h1 : q < n) (h2 : b q = c) : tE b n q = q + 1 := by
  have c1 : ¬ q < tW b n q := fun e => by
    have := tTo_first isLe b e
    rw [h2, hl] at this
    cases this
  have c2 : ¬ q < tD b n q := fun e => by
    have := tTo_first isDi b e
    rw [h2, hd] at this
    cases this
  unfold tE
  rw [if_neg c1, if_neg c2]
  omega
theorem tE_1 {q : Nat} (h : q < tW b n q) : tE b n q = tW b n q := if_pos h
theorem tE_2 {q : Nat} (h : q ≤ n) (h2 : q < tD b n q) : tE b n q = tD b n q := by
  unfold tE
  rw [if_neg (tK_d h h2), if_pos h2]
/-- the word at q is s -/
def tIs (b : Nat → Int32) (n q : Nat) (s : List Int32) : Prop := tW b n q = q + s.length ∧ ∀ i, i < s.length → b (q + i) = s.getD i 0
/-- the value of the digits from q to e -/
def tV (b : Nat → Int32) (q : Nat) : Nat → Nat
  | 0 => 0
  | j + 1 => 10 * tV b q j + ((b (q + j)).toInt.toNat - 48)
theorem di_v {v : Int32} (h : isDi v = true) : ∃ d, d < 10 ∧ v = nI (48 + d) ∧ v.toInt.toNat - 48 = d := by
  unfold isDi at h
  have h := of_decide_eq_true h
  have h1 := Int32.le_iff_toInt_le.mp h.1
  have h2 := Int32.le_iff_toInt_le.mp h.2
  have c1 : (48 : Int32).toInt = 48 := by decide
  have c2 : (57 : Int32).toInt = 57 := by decide
  refine ⟨v.toInt.toNat - 48, by omega, ?_, rfl⟩
  apply Int32.toInt_inj.mp
  rw [nI_toInt (by omega)]
  omega
end SCANP
