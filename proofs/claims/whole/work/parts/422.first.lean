/-! THE FIRST HEAP -/
section FIRST
theorem Inv_new {f : Nat → Int32} (e : ∀ k, k < 8 → f k = 0) (e8 : f 8 = 1000) (e9 : f 9 = 2000) : Inv f := by
  have eR : nR f = 0 := by unfold nR; rw [e 0 (by omega)]; rfl
  have eG : nG f = 0 := by unfold nG; rw [e 1 (by omega)]; rfl
  have eT : nT f = 0 := by unfold nT; rw [e 2 (by omega)]; rfl
  have eX : nX f = 0 := by unfold nX; rw [e 3 (by omega)]; rfl
  have eB : nB f = 0 := by unfold nB; rw [e 4 (by omega)]; rfl
  have eD : nD f = 0 := by unfold nD; rw [e 5 (by omega)]; rfl
  have eS : sR f = 0 := by unfold sR; rw [e 6 (by omega)]; rfl
  unfold Inv
  rw [eR, eG, eT, eX, eB, eD, eS, e 0 (by omega), e 1 (by omega), e 2 (by omega), e 3 (by omega), e 4 (by omega), e 5 (by omega), e 6 (by omega), e 7 (by omega), e8, e9]
  refine ⟨⟨rfl, by omega⟩, ⟨rfl, by omega⟩, ⟨rfl, by omega⟩, ⟨rfl, by omega⟩, ⟨rfl, by omega⟩, ⟨rfl, by omega⟩, ⟨rfl, by omega, Or.inr ⟨rfl, rfl⟩⟩, by unfold bw; decide, by unfold bw; decide, by unfold bw; decide, fun r hr => absurd hr (by omega), fun r hr => absurd hr (by omega), fun r hr => absurd hr (by omega), fun r hr => absurd hr (by omega)⟩
def shD (h : Hp) : Decidable (Sh h) := by
  delta Sh
  repeat (refine @instDecidableAnd _ _ inferInstance ?_)
  exact inferInstance
def ptD (h : Hp) : Decidable (Pt h 51 52 0) := by
  delta Pt
  repeat (refine @instDecidableAnd _ _ inferInstance ?_)
  exact inferInstance
def shB (h : Hp) : Bool := @decide (Sh h) (shD h)
def ptB (h : Hp) : Bool := @decide (Pt h 51 52 0) (ptD h)
def allB (n : Nat) (f : Nat → Bool) : Bool := (List.range n).all f
theorem allB_t {n : Nat} {f : Nat → Bool} (e : allB n f = true) {k : Nat} (hk : k < n) : f k = true := List.all_eq_true.mp e k (List.mem_range.mpr hk)
def eqB (a b : Int32) : Bool := decide (a = b)
theorem eqB_t {a b : Int32} (e : eqB a b = true) : a = b := of_decide_eq_true e
def cellB (h : Hp) : Bool :=
  (allB 8 (fun k => eqB (zI h 60 k) 0) && (eqB (zI h 60 8) 1000 && eqB (zI h 60 9) 2000)) &&
  ((eqB (zI h 3 0) (zI h 60 0) && (eqB (zI h 3 5) (zI h 60 1) && (eqB (zI h 11 0) (zI h 60 2) && (eqB (zI h 3 14) (zI h 60 3) && (eqB (zI h 15 0) (zI h 60 4) && (eqB (zI h 3 17) (zI h 60 5) && (eqB (zI h 3 11) (zI h 60 6) && (eqB (zI h 3 10) (zI h 60 7) && (eqB (zI h 3 12) (zI h 60 8) && (eqB (zI h 3 13) (zI h 60 9) && eqB (zI h 3 15) (zI h 60 10))))))))))) &&
  (allB 8 (fun r => eqB (zI h 4 r) (zI h 60 (11 + 4 * r)) && (eqB (zI h 5 r) (zI h 60 (12 + 4 * r)) && (eqB (zI h 6 r) (zI h 60 (13 + 4 * r)) && eqB (zI h 7 r) (zI h 60 (14 + 4 * r))))) &&
  (allB 5 (fun g => eqB (zI h 8 g) (zI h 60 (43 + 2 * g)) && eqB (zI h 9 g) (zI h 60 (44 + 2 * g))) &&
  (allB 6 (fun t => eqB (zI h 12 t) (zI h 60 (53 + 3 * t)) && (eqB (zI h 13 t) (zI h 60 (54 + 3 * t)) && eqB (zI h 14 t) (zI h 60 (55 + 3 * t)))) &&
  (allB 8 (fun k => eqB (zI h 19 k) (zI h 60 (131 + 2 * k)) && eqB (zI h 20 k) (zI h 60 (132 + 2 * k))) &&
  (allB 400 (fun k => eqB (zI h 2 k) (zI h 63 k)) &&
  (eqB (zI h 1 1) 0 && (eqB (zI h 59 6) 0 && (eqB (zI h 1 6) (zI h 59 11) && ((zR h 0 9).isNone && eqB (zI h 59 4) 0))))))))))
theorem an_t {a b : Bool} (e : (a && b) = true) : a = true ∧ b = true := by simpa using e
theorem GS_new {h : Hp} (b1 : shB h = true) (b2 : ptB h = true) (b3 : cellB h = true) : GS h := by
  have s : Sh h := @of_decide_eq_true (Sh h) (shD h) b1
  have p : Pt h 51 52 0 := @of_decide_eq_true (Pt h 51 52 0) (ptD h) b2
  unfold cellB at b3
  obtain ⟨b0, b3⟩ := an_t b3
  obtain ⟨x0, x8⟩ := an_t b0
  obtain ⟨x8, x9⟩ := an_t x8
  have c0 : ∀ k, k < 8 → zI h 60 k = 0 := fun k hk => eqB_t (allB_t x0 hk)
  have c8 := eqB_t x8
  have c9 := eqB_t x9
  obtain ⟨y, b3⟩ := an_t b3
  obtain ⟨y0, y⟩ := an_t y
  obtain ⟨y1, y⟩ := an_t y
  obtain ⟨y2, y⟩ := an_t y
  obtain ⟨y3, y⟩ := an_t y
  obtain ⟨y4, y⟩ := an_t y
  obtain ⟨y5, y⟩ := an_t y
  obtain ⟨y6, y⟩ := an_t y
  obtain ⟨y7, y⟩ := an_t y
  obtain ⟨y8, y⟩ := an_t y
  obtain ⟨y9, y10⟩ := an_t y
  obtain ⟨z2, b3⟩ := an_t b3
  obtain ⟨z3, b3⟩ := an_t b3
  obtain ⟨z4, b3⟩ := an_t b3
  obtain ⟨z5, b3⟩ := an_t b3
  obtain ⟨z6, b3⟩ := an_t b3
  obtain ⟨d1, b3⟩ := an_t b3
  obtain ⟨d2, b3⟩ := an_t b3
  obtain ⟨d3, b3⟩ := an_t b3
  obtain ⟨d4, d5⟩ := an_t b3
  have d1 := eqB_t d1
  have d2 := eqB_t d2
  have d3 := eqB_t d3
  have d4 : zR h 0 9 = none := Option.isNone_iff_eq_none.mp d4
  have d5 := eqB_t d5
  have c1 := And.intro (eqB_t y0) (And.intro (eqB_t y1) (And.intro (eqB_t y2) (And.intro (eqB_t y3) (And.intro (eqB_t y4) (And.intro (eqB_t y5) (And.intro (eqB_t y6) (And.intro (eqB_t y7) (And.intro (eqB_t y8) (And.intro (eqB_t y9) (eqB_t y10))))))))))
  have c2 : ∀ r, r < 8 → zI h 4 r = zI h 60 (11 + 4 * r) ∧ zI h 5 r = zI h 60 (12 + 4 * r) ∧ zI h 6 r = zI h 60 (13 + 4 * r) ∧ zI h 7 r = zI h 60 (14 + 4 * r) := fun r hr => by
    obtain ⟨q1, q⟩ := an_t (allB_t z2 hr)
    obtain ⟨q2, q⟩ := an_t q
    obtain ⟨q3, q4⟩ := an_t q
    exact ⟨eqB_t q1, eqB_t q2, eqB_t q3, eqB_t q4⟩
  have c3 : ∀ g, g < 5 → zI h 8 g = zI h 60 (43 + 2 * g) ∧ zI h 9 g = zI h 60 (44 + 2 * g) := fun r hr => by
    obtain ⟨q1, q2⟩ := an_t (allB_t z3 hr)
    exact ⟨eqB_t q1, eqB_t q2⟩
  have c4 : ∀ t, t < 6 → zI h 12 t = zI h 60 (53 + 3 * t) ∧ zI h 13 t = zI h 60 (54 + 3 * t) ∧ zI h 14 t = zI h 60 (55 + 3 * t) := fun r hr => by
    obtain ⟨q1, q⟩ := an_t (allB_t z4 hr)
    obtain ⟨q2, q3⟩ := an_t q
    exact ⟨eqB_t q1, eqB_t q2, eqB_t q3⟩
  have c5 : ∀ k, k < 8 → zI h 19 k = zI h 60 (131 + 2 * k) ∧ zI h 20 k = zI h 60 (132 + 2 * k) := fun r hr => by
    obtain ⟨q1, q2⟩ := an_t (allB_t z5 hr)
    exact ⟨eqB_t q1, eqB_t q2⟩
  have c6 : ∀ k, k < 400 → zI h 2 k = zI h 63 k := fun k hk => eqB_t (allB_t z6 hk)
  have i : Inv (zI h 60) := Inv_new c0 c8 c9
  have eB : nB (zI h 60) = 0 := by unfold nB; rw [c0 4 (by omega)]; rfl
  have eG : nG (zI h 60) = 0 := by unfold nG; rw [c0 1 (by omega)]; rfl
  refine ⟨s, i, ⟨c1, c2, c3, c4, c5, fun b hb => absurd hb (by omega), fun g hg => absurd hg (by omega)⟩, ⟨c6, by rw [d1, d2], d3, 0, by omega, d1⟩, 51, 52, 0, p, Or.inl ⟨d4, d5⟩⟩
def chkM (o : Option (Unit × Hp × Nat × Nat)) : Bool := match o with
  | some (_, h18, n19, n20) => decide (zN h18 = 72 ∧ n19 = 12 ∧ n20 ≤ 120000) && shB (alloc h18 16 1) && ptB (alloc h18 16 1) && cellB (alloc h18 16 1)
  | none => false
def chkC (o : Option (Unit × Hp × Nat × Nat)) : Bool := match o with
  | some (_, h7, n8, n9) => decide (zN h7 = 59 ∧ n8 = 58 ∧ n9 ≤ 10000) && chkM (F_X12_init 59 (alloc h7 11 0))
  | none => false
set_option maxRecDepth 1000000 in
theorem chk_first : chkC (F_X11_init 0 (alloc hp0 10 0)) = true := by decide +kernel
theorem first : ∃ h7 n9 h18 n20, F_X11_init 0 (alloc hp0 10 0) = some ((), h7, 58, n9) ∧ zN h7 = 59 ∧ n9 ≤ 10000 ∧ F_X12_init 59 (alloc h7 11 0) = some ((), h18, 12, n20) ∧ zN h18 = 72 ∧ n20 ≤ 120000 ∧ GS (alloc h18 16 1) := by
  have c := chk_first
  cases e : F_X11_init 0 (alloc hp0 10 0) with
  | none =>
    rw [e] at c
    cases c
  | some q =>
    obtain ⟨u, h7, n8, n9⟩ := q
    rw [e] at c
    have c1 : (decide (zN h7 = 59 ∧ n8 = 58 ∧ n9 ≤ 10000) && chkM (F_X12_init 59 (alloc h7 11 0))) = true := c
    clear c
    obtain ⟨x1, x2⟩ := an_t c1
    obtain ⟨z7, z8, l9⟩ := of_decide_eq_true x1
    subst z8
    cases e2 : F_X12_init 59 (alloc h7 11 0) with
    | none =>
      rw [e2] at x2
      cases x2
    | some q =>
      obtain ⟨u2, h18, n19, n20⟩ := q
      rw [e2] at x2
      have x3 : (decide (zN h18 = 72 ∧ n19 = 12 ∧ n20 ≤ 120000) && shB (alloc h18 16 1) && ptB (alloc h18 16 1) && cellB (alloc h18 16 1)) = true := x2
      obtain ⟨x4, b3⟩ := an_t x3
      obtain ⟨x5, b2⟩ := an_t x4
      obtain ⟨x6, b1⟩ := an_t x5
      obtain ⟨z18, z19, l20⟩ := of_decide_eq_true x6
      subst z19
      exact ⟨h7, n9, h18, n20, rfl, z7, l9, e2, z18, l20, GS_new b1 b2 b3⟩
end FIRST
