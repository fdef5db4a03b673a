/-! WISHES: what a step does -/
def bI (b : Bool) : Int32 := if b then 1 else 0
theorem bI_or (b : Bool) : bI b = 0 ∨ bI b = 1 := by cases b <;> simp [bI]
def faS (f : Nat → Int32) (sf : Nat → Nat) (g : Nat) (k n : Int32) : Int32 :=
  if k = 0 then f (11 + 4 * sf g) + 9 else if k = 1 then f (12 + 4 * sf g) + 9 else if k = 2 then jabs (f (11 + 4 * sf g)) + jabs (f (12 + 4 * sf g)) else if k = 3 then nI (hdS sf (nG f) (sf g)) else if k = 4 then f (14 + 4 * sf g) else if k = 5 then nI (sf g) else if k = 6 then bI (decide (hdS sf (nG f) (sf g) = 1)) else if k = 7 then bI (decide (sR f = sf g)) else if k = 8 then bI (isIn n (nG f) && decide (sf n.toNatClampNeg = sf g)) else n
def jnS (k a b : Int32) : Int32 := if k = 10 then a + b else if k = 11 then bI (decide (a < b)) else if k = 12 then bI (decide (b < a)) else if k = 14 then bI (decide (a + b = 2)) else bI (decide (0 < a + b))
def evS (fa : Int32 → Int32 → Int32) (k n : Int32) (st : List Int32) : List Int32 :=
  if k = 0 ∨ k = 1 ∨ k = 2 ∨ k = 3 ∨ k = 4 ∨ k = 5 ∨ k = 6 ∨ k = 7 ∨ k = 8 ∨ k = 9 then fa k n :: st
  else if k = 13 then (match st with
    | a :: r => (1 - a) :: r
    | [] => [])
  else (match st with
    | b :: a :: r => jnS k a b :: r
    | _ => st)
def evR (fa : Int32 → Int32 → Int32) (m : Nat → Int32) : Nat → Nat → List Int32 → List Int32
  | _, 0, st => st
  | i, n + 1, st => evR fa m (i + 1) n (evS fa (m (17 + 2 * i)) (m (18 + 2 * i)) st)
def tyV : List Bool → List Int32 → Prop
  | [], [] => True
  | t :: ts, v :: vs => (t = true → v = 0 ∨ v = 1) ∧ tyV ts vs
  | _, _ => False
theorem tyV_len : ∀ {ts : List Bool} {vs : List Int32}, tyV ts vs → ts.length = vs.length
  | [], [], _ => rfl
  | _ :: ts, _ :: vs, h => by
    have := tyV_len (ts := ts) (vs := vs) h.2
    simp [this]
  | [], _ :: _, h => absurd h id
  | _ :: _, [], h => absurd h id
def memS (M : Nat → Int32) : List Int32 → Prop
  | [] => True
  | v :: r => M r.length = v ∧ memS M r
theorem memS_up {M : Nat → Int32} {k : Nat} {v : Int32} : ∀ {st : List Int32}, st.length ≤ k → memS M st → memS (va_up M k v) st
  | [], _, _ => trivial
  | a :: r, h, q => by
    have h' : r.length + 1 ≤ k := h
    refine ⟨?_, memS_up (by omega) q.2⟩
    rw [va_n _ _ _ _ (by omega)]
    exact q.1
theorem memS_push {M : Nat → Int32} {v : Int32} {st : List Int32} (q : memS M st) : memS (va_up M st.length v) (v :: st) := ⟨va_e _ _ _, memS_up (Nat.le_refl _) q⟩
/-- the sixteen steps -/
theorem tyS_cases {k n : Int32} {ty ty' : List Bool} (h : tyS k n ty = some ty') :
    ((k = 0 ∨ k = 1 ∨ k = 2 ∨ k = 3 ∨ k = 4 ∨ k = 5) ∧ ty.length < 32 ∧ ty' = false :: ty) ∨
    ((k = 6 ∨ k = 7) ∧ ty.length < 32 ∧ ty' = true :: ty) ∨
    (k = 8 ∧ (0 ≤ n.toInt ∧ n.toInt ≤ 4) ∧ ty.length < 32 ∧ ty' = true :: ty) ∨
    (k = 9 ∧ (0 ≤ n.toInt ∧ n.toInt ≤ 99999) ∧ ty.length < 32 ∧ ty' = false :: ty) ∨
    (k = 13 ∧ ∃ r, ty = true :: r ∧ ty' = true :: r) ∨
    (k = 10 ∧ ∃ r, ty = false :: false :: r ∧ ty' = false :: r) ∨
    ((k = 11 ∨ k = 12) ∧ ∃ r, ty = false :: false :: r ∧ ty' = true :: r) ∨
    ((k = 14 ∨ k = 15) ∧ ∃ r, ty = true :: true :: r ∧ ty' = true :: r) := by
  unfold tyS at h
  by_cases h9 : k = 9
  · rw [if_pos h9] at h
    by_cases q : (0 ≤ n.toInt ∧ n.toInt ≤ 99999) ∧ ty.length < 32
    · rw [if_pos q] at h
      cases h
      exact Or.inr (Or.inr (Or.inr (Or.inl ⟨h9, q.1, q.2, rfl⟩)))
    · rw [if_neg q] at h
      cases h
  · rw [if_neg h9] at h
    by_cases h8 : k = 8
    · rw [if_pos h8] at h
      by_cases q : (0 ≤ n.toInt ∧ n.toInt ≤ 4) ∧ ty.length < 32
      · rw [if_pos q] at h
        cases h
        exact Or.inr (Or.inr (Or.inl ⟨h8, q.1, q.2, rfl⟩))
      · rw [if_neg q] at h
        cases h
    · rw [if_neg h8] at h
      by_cases h6 : k = 6 ∨ k = 7
      · rw [if_pos h6] at h
        by_cases q : ty.length < 32
        · rw [if_pos q] at h
          cases h
          exact Or.inr (Or.inl ⟨h6, q, rfl⟩)
        · rw [if_neg q] at h
          cases h
      · rw [if_neg h6] at h
        by_cases h0 : k = 0 ∨ k = 1 ∨ k = 2 ∨ k = 3 ∨ k = 4 ∨ k = 5
        · rw [if_pos h0] at h
          by_cases q : ty.length < 32
          · rw [if_pos q] at h
            cases h
            exact Or.inl ⟨h0, q, rfl⟩
          · rw [if_neg q] at h
            cases h
        · rw [if_neg h0] at h
          by_cases h13 : k = 13
          · rw [if_pos h13] at h
            cases ty with
            | nil => cases h
            | cons t r =>
              cases t with
              | false => cases h
              | true =>
                cases h
                exact Or.inr (Or.inr (Or.inr (Or.inr (Or.inl ⟨h13, r, rfl, rfl⟩))))
          · rw [if_neg h13] at h
            by_cases h10 : k = 10
            · rw [if_pos h10] at h
              cases ty with
              | nil => cases h
              | cons t r =>
                cases r with
                | nil => cases t <;> cases h
                | cons t2 r =>
                  cases t <;> cases t2 <;> cases h
                  exact Or.inr (Or.inr (Or.inr (Or.inr (Or.inr (Or.inl ⟨h10, r, rfl, rfl⟩)))))
            · rw [if_neg h10] at h
              by_cases h11 : k = 11 ∨ k = 12
              · rw [if_pos h11] at h
                cases ty with
                | nil => cases h
                | cons t r =>
                  cases r with
                  | nil => cases t <;> cases h
                  | cons t2 r =>
                    cases t <;> cases t2 <;> cases h
                    exact Or.inr (Or.inr (Or.inr (Or.inr (Or.inr (Or.inr (Or.inl ⟨h11, r, rfl, rfl⟩))))))
              · rw [if_neg h11] at h
                by_cases h14 : k = 14 ∨ k = 15
                · rw [if_pos h14] at h
                  cases ty with
                  | nil => cases h
                  | cons t r =>
                    cases r with
                    | nil => cases t <;> cases h
                    | cons t2 r =>
                      cases t <;> cases t2 <;> cases h
                      exact Or.inr (Or.inr (Or.inr (Or.inr (Or.inr (Or.inr (Or.inr ⟨h14, r, rfl, rfl⟩))))))
                · rw [if_neg h14] at h
                  cases h
theorem tyV_c {t : Bool} {r : List Bool} {st : List Int32} (h : tyV (t :: r) st) : ∃ v s, st = v :: s ∧ (t = true → v = 0 ∨ v = 1) ∧ tyV r s := by
  cases st with
  | nil => exact absurd h id
  | cons v s => exact ⟨v, s, rfl, h.1, h.2⟩
/-- a step, by its sort, with the values -/
theorem ev_cases {f : Nat → Int32} {sf : Nat → Nat} {g : Nat} {k n : Int32} {ty ty' : List Bool} {st : List Int32} (h : tyS k n ty = some ty') (v : tyV ty st) :
    ((k = 0 ∨ k = 1 ∨ k = 2 ∨ k = 3 ∨ k = 4 ∨ k = 5 ∨ k = 6 ∨ k = 7 ∨ (k = 8 ∧ 0 ≤ n.toInt ∧ n.toInt ≤ 4) ∨ (k = 9 ∧ 0 ≤ n.toInt ∧ n.toInt ≤ 99999)) ∧ st.length < 32 ∧ evS (faS f sf g) k n st = faS f sf g k n :: st ∧ tyV ty' (faS f sf g k n :: st)) ∨
    (k = 13 ∧ ∃ a r, st = a :: r ∧ (a = 0 ∨ a = 1) ∧ evS (faS f sf g) k n st = (1 - a) :: r ∧ tyV ty' ((1 - a) :: r)) ∨
    ((k = 10 ∨ k = 11 ∨ k = 12 ∨ ((k = 14 ∨ k = 15) ∧ ∃ b a r, st = b :: a :: r ∧ (a = 0 ∨ a = 1) ∧ (b = 0 ∨ b = 1))) ∧ ∃ b a r, st = b :: a :: r ∧ evS (faS f sf g) k n st = jnS k a b :: r ∧ tyV ty' (jnS k a b :: r)) := by
  have hl := tyV_len v
  rcases tyS_cases h with ⟨hk, q, rfl⟩ | ⟨hk, q, rfl⟩ | ⟨hk, hn, q, rfl⟩ | ⟨hk, hn, q, rfl⟩ | ⟨hk, r, rfl, rfl⟩ | ⟨hk, r, rfl, rfl⟩ | ⟨hk, r, rfl, rfl⟩ | ⟨hk, r, rfl, rfl⟩
  · refine Or.inl ⟨?_, by omega, ?_, ⟨fun z => absurd z (by decide), v⟩⟩
    · rcases hk with hk | hk | hk | hk | hk | hk <;> simp [hk]
    · unfold evS
      rw [if_pos]
      rcases hk with hk | hk | hk | hk | hk | hk <;> simp [hk]
  · refine Or.inl ⟨?_, by omega, ?_, ⟨fun _ => ?_, v⟩⟩
    · rcases hk with hk | hk <;> simp [hk]
    · unfold evS
      rw [if_pos]
      rcases hk with hk | hk <;> simp [hk]
    · rcases hk with rfl | rfl
      · exact bI_or _
      · exact bI_or _
  · subst hk
    refine Or.inl ⟨?_, by omega, rfl, ⟨fun _ => bI_or _, v⟩⟩
    exact Or.inr (Or.inr (Or.inr (Or.inr (Or.inr (Or.inr (Or.inr (Or.inr (Or.inl ⟨rfl, hn⟩))))))))
  · subst hk
    refine Or.inl ⟨?_, by omega, rfl, ⟨fun z => absurd z (by decide), v⟩⟩
    exact Or.inr (Or.inr (Or.inr (Or.inr (Or.inr (Or.inr (Or.inr (Or.inr (Or.inr ⟨rfl, hn⟩))))))))
  · subst hk
    obtain ⟨a, s, rfl, ha, hs⟩ := tyV_c v
    refine Or.inr (Or.inl ⟨rfl, a, s, rfl, ha rfl, rfl, fun _ => ?_, hs⟩)
    rcases ha rfl with rfl | rfl
    · exact Or.inr rfl
    · exact Or.inl rfl
  · subst hk
    obtain ⟨b, s, rfl, hb, hs⟩ := tyV_c v
    obtain ⟨a, s, rfl, ha, hs⟩ := tyV_c hs
    exact Or.inr (Or.inr ⟨Or.inl rfl, b, a, s, rfl, rfl, fun z => absurd z (by decide), hs⟩)
  · obtain ⟨b, s, rfl, hb, hs⟩ := tyV_c v
    obtain ⟨a, s, rfl, ha, hs⟩ := tyV_c hs
    rcases hk with rfl | rfl
    · exact Or.inr (Or.inr ⟨Or.inr (Or.inl rfl), b, a, s, rfl, rfl, fun _ => bI_or _, hs⟩)
    · exact Or.inr (Or.inr ⟨Or.inr (Or.inr (Or.inl rfl)), b, a, s, rfl, rfl, fun _ => bI_or _, hs⟩)
  · obtain ⟨b, s, rfl, hb, hs⟩ := tyV_c v
    obtain ⟨a, s, rfl, ha, hs⟩ := tyV_c hs
    rcases hk with rfl | rfl
    · exact Or.inr (Or.inr ⟨Or.inr (Or.inr (Or.inr ⟨Or.inl rfl, b, a, s, rfl, ha rfl, hb rfl⟩)), b, a, s, rfl, rfl, fun _ => bI_or _, hs⟩)
    · exact Or.inr (Or.inr ⟨Or.inr (Or.inr (Or.inr ⟨Or.inr rfl, b, a, s, rfl, ha rfl, hb rfl⟩)), b, a, s, rfl, rfl, fun _ => bI_or _, hs⟩)
