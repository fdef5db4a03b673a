/-! THE HOUSE'S LINES, over the world -/
section TELL
variable {f : Nat → Int32}
/-- what a line says to the world: its kind and its numbers -/
def tellW (f : Nat → Int32) (k a c d : Nat) : Nat → Int32 :=
  match k with
  | 0 => va_up (va_up (va_up (va_up (va_up f (11 + 4 * nR f) (nI a)) (12 + 4 * nR f) (nI c)) (13 + 4 * nR f) (nI d)) (14 + 4 * nR f) 0) 0 (nI (nR f + 1))
  | 1 => va_up (va_up (va_up (va_up f (43 + 2 * nG f) (nI a)) (44 + 2 * nG f) (nI c)) (147 + 817 * nG f) 0) 1 (nI (nG f + 1))
  | 2 => va_up (va_up (va_up (va_up f (53 + 3 * nT f) (nI a)) (54 + 3 * nT f) (nI c)) (55 + 3 * nT f) (nI d)) 2 (nI (nT f + 1))
  | 3 => va_up (va_up f 7 (nI a)) 6 (nI c)
  | 4 => va_up f (14 + 4 * a) (nI c)
  | 5 => va_up f 8 (nI a)
  | 6 => va_up f 9 (nI a)
  | 7 => va_up f (11 + 4 * a) (0 - f (11 + 4 * a))
  | _ => va_up f (12 + 4 * a) (0 - f (12 + 4 * a))
/-- the line may be told -/
def okRow (f : Nat → Int32) (k a c d : Nat) : Prop :=
  match k with
  | 0 => nR f < 8 ∧ a ≤ 9 ∧ c ≤ 9 ∧ 1 ≤ d ∧ d ≤ 4
  | 1 => nG f < 5 ∧ 1 ≤ a ∧ a ≤ 200 ∧ c < nR f
  | 2 => nT f < 6 ∧ a ≤ c ∧ c ≤ 300 ∧ d < nR f
  | 3 => a ≤ 999 ∧ c < nR f
  | 4 => a < nR f ∧ c ≤ 999
  | 5 => a ≤ 99999
  | 6 => a ≤ 99999
  | 7 => a < nR f
  | 8 => a < nR f
  | _ => False
theorem bw_n {x : Nat} {lo hi : Int} (h1 : lo ≤ x) (h2 : (x : Int) ≤ hi) (hx : x < 2147483648) : bw (nI x) lo hi := by
  unfold bw
  rw [nI_toInt hx]
  exact ⟨h1, h2⟩
theorem bw_neg {x : Int32} (h : bw x (-9) 9) : bw (0 - x) (-9) 9 := by
  obtain ⟨h1, h2⟩ := h
  unfold bw
  have : (0 - x).toInt = - x.toInt := by
    rw [Int32.toInt_sub, Int.bmod_def]
    have c : (0 : Int32).toInt = 0 := rfl
    rw [c]
    split <;> omega
  rw [this]
  omega
/-- a new room -/
theorem Inv_0 (i : Inv f) {a c d : Nat} (o : okRow f 0 a c d) : Inv (tellW f 0 a c d) := by
  obtain ⟨o1, o2, o3, o4, o5⟩ := o
  have b20 := iB20 i
  have g5 := iG5 i
  have t6 := iT6 i
  have e0 : tellW f 0 a c d 0 = nI (nR f + 1) := va_e _ _ _
  have e : ∀ k, k ≠ 0 → (k < 11 + 4 * nR f ∨ 14 + 4 * nR f < k) → tellW f 0 a c d k = f k := fun k h0 hk => by
    show va_up (va_up (va_up (va_up (va_up f (11 + 4 * nR f) (nI a)) (12 + 4 * nR f) (nI c)) (13 + 4 * nR f) (nI d)) (14 + 4 * nR f) 0) 0 (nI (nR f + 1)) k = _
    rw [va_o _ _ h0, va_o _ _ (by omega), va_o _ _ (by omega), va_o _ _ (by omega), va_o _ _ (by omega)]
  have x1 : tellW f 0 a c d (11 + 4 * nR f) = nI a := by
    show va_up (va_up (va_up (va_up (va_up f (11 + 4 * nR f) (nI a)) (12 + 4 * nR f) (nI c)) (13 + 4 * nR f) (nI d)) (14 + 4 * nR f) 0) 0 (nI (nR f + 1)) _ = _
    rw [va_o _ _ (by omega), va_o _ _ (by omega), va_o _ _ (by omega), va_o _ _ (by omega), va_e]
  have x2 : tellW f 0 a c d (12 + 4 * nR f) = nI c := by
    show va_up (va_up (va_up (va_up (va_up f (11 + 4 * nR f) (nI a)) (12 + 4 * nR f) (nI c)) (13 + 4 * nR f) (nI d)) (14 + 4 * nR f) 0) 0 (nI (nR f + 1)) _ = _
    rw [va_o _ _ (by omega), va_o _ _ (by omega), va_o _ _ (by omega), va_e]
  have x3 : tellW f 0 a c d (13 + 4 * nR f) = nI d := by
    show va_up (va_up (va_up (va_up (va_up f (11 + 4 * nR f) (nI a)) (12 + 4 * nR f) (nI c)) (13 + 4 * nR f) (nI d)) (14 + 4 * nR f) 0) 0 (nI (nR f + 1)) _ = _
    rw [va_o _ _ (by omega), va_o _ _ (by omega), va_e]
  have x4 : tellW f 0 a c d (14 + 4 * nR f) = nI 0 := by
    show va_up (va_up (va_up (va_up (va_up f (11 + 4 * nR f) (nI a)) (12 + 4 * nR f) (nI c)) (13 + 4 * nR f) (nI d)) (14 + 4 * nR f) 0) 0 (nI (nR f + 1)) _ = _
    rw [va_o _ _ (by omega), va_e]
    rfl
  generalize tellW f 0 a c d = f2 at e0 e x1 x2 x3 x4
  have eR : nR f2 = nR f + 1 := by unfold nR; rw [e0, ncl (by omega)]; rfl
  have eG : nG f2 = nG f := by unfold nG; rw [e 1 (by omega) (by omega)]
  have eT : nT f2 = nT f := by unfold nT; rw [e 2 (by omega) (by omega)]
  have eX : nX f2 = nX f := by unfold nX; rw [e 3 (by omega) (by omega)]
  have eB : nB f2 = nB f := by unfold nB; rw [e 4 (by omega) (by omega)]
  have eD : nD f2 = nD f := by unfold nD; rw [e 5 (by omega) (by omega)]
  have eS : sR f2 = sR f := by unfold sR; rw [e 6 (by omega) (by omega)]
  have is := iSr i
  unfold Inv
  rw [eR, eG, eT, eX, eB, eD, eS, e0, e 1 (by omega) (by omega), e 2 (by omega) (by omega), e 3 (by omega) (by omega), e 4 (by omega) (by omega), e 5 (by omega) (by omega), e 6 (by omega) (by omega), e 7 (by omega) (by omega), e 8 (by omega) (by omega), e 9 (by omega) (by omega)]
  refine ⟨⟨rfl, by omega⟩, i.2.1, i.2.2.1, i.2.2.2.1, i.2.2.2.2.1, i.2.2.2.2.2.1, ⟨is.1, is.2.1, is.2.2.imp (fun q => by omega) id⟩, i7 i, i8 i, i9 i, fun r hr => ?_, fun g hg => ?_, fun t ht => ?_, fun b hb => ?_⟩
  · by_cases q : r = nR f
    · rw [q, x1, x2, x3, x4]
      exact ⟨bw_n (by omega) (by omega) (by omega), bw_n (by omega) (by omega) (by omega), bw_n (by omega) (by omega) (by omega), bw_n (by omega) (by omega) (by omega)⟩
    · rw [e _ (by omega) (by omega), e _ (by omega) (by omega), e _ (by omega) (by omega), e _ (by omega) (by omega)]
      exact irm i r (by omega)
  · have es : sit f2 g = sit f g := by unfold sit; rw [e _ (by omega) (by omega)]
    rw [es, e _ (by omega) (by omega), e _ (by omega) (by omega)]
    obtain ⟨y1, y2, y3⟩ := igs i g hg
    exact ⟨y1, y2, by omega⟩
  · have es : tin f2 t = tin f t := by unfold tin; rw [e _ (by omega) (by omega)]
    rw [es, e _ (by omega) (by omega), e _ (by omega) (by omega), e _ (by omega) (by omega)]
    obtain ⟨y1, y2, y3, y4, y5⟩ := itr i t ht
    exact ⟨y1, y2, y3, y4, by omega⟩
  · rw [e _ (by omega) (by omega), e _ (by omega) (by omega), e _ (by omega) (by omega)]
    obtain ⟨y1, y2, r, y3, y4⟩ := ibk i b hb
    exact ⟨y1, y2, r, by omega, y4⟩
/-- all else of the world stays -/
theorem Inv_s {f2 : Nat → Int32} (i : Inv f) (e : ∀ k, k < 6 → f2 k = f k) (e6 : f2 6 = nI (sR f2) ∧ sR f2 < 8 ∧ (sR f2 < nR f ∨ (f2 7 = 0 ∧ sR f2 = 0))) (e7 : bw (f2 7) 0 999) (e8 : bw (f2 8) 0 99999) (e9 : bw (f2 9) 0 99999) (er : ∀ r, r < nR f → bw (f2 (11 + 4 * r)) (-9) 9 ∧ bw (f2 (12 + 4 * r)) (-9) 9 ∧ bw (f2 (13 + 4 * r)) 1 4 ∧ bw (f2 (14 + 4 * r)) 0 999) (eo : ∀ k, 43 ≤ k → f2 k = f k) : Inv f2 := by
  have b20 := iB20 i
  have g5 := iG5 i
  have t6 := iT6 i
  have eR : nR f2 = nR f := by unfold nR; rw [e 0 (by omega)]
  have eG : nG f2 = nG f := by unfold nG; rw [e 1 (by omega)]
  have eT : nT f2 = nT f := by unfold nT; rw [e 2 (by omega)]
  have eX : nX f2 = nX f := by unfold nX; rw [e 3 (by omega)]
  have eB : nB f2 = nB f := by unfold nB; rw [e 4 (by omega)]
  have eD : nD f2 = nD f := by unfold nD; rw [e 5 (by omega)]
  unfold Inv
  rw [eR, eG, eT, eX, eB, eD, e 0 (by omega), e 1 (by omega), e 2 (by omega), e 3 (by omega), e 4 (by omega), e 5 (by omega)]
  refine ⟨i.1, i.2.1, i.2.2.1, i.2.2.2.1, i.2.2.2.2.1, i.2.2.2.2.2.1, e6, e7, e8, e9, er, fun g hg => ?_, fun t ht => ?_, fun b hb => ?_⟩
  · have es : sit f2 g = sit f g := by unfold sit; rw [eo _ (by omega)]
    rw [es, eo _ (by omega), eo _ (by omega)]
    exact igs i g hg
  · have es : tin f2 t = tin f t := by unfold tin; rw [eo _ (by omega)]
    rw [es, eo _ (by omega), eo _ (by omega), eo _ (by omega)]
    exact itr i t ht
  · rw [eo _ (by omega), eo _ (by omega), eo _ (by omega)]
    exact ibk i b hb
end TELL
