/-! THE HOUSE'S LINES, over the world: all kinds -/
section TELL2
variable {f : Nat → Int32}
theorem Inv_1 (i : Inv f) {a c d : Nat} (o : okRow f 1 a c d) : Inv (tellW f 1 a c d) := by
  obtain ⟨o1, o2, o3, o4⟩ := o
  have b20 := iB20 i
  have r8 := iR8 i
  have t6 := iT6 i
  have e0 : tellW f 1 a c d 1 = nI (nG f + 1) := va_e _ _ _
  have e : ∀ k, k ≠ 1 → (k < 43 + 2 * nG f ∨ 44 + 2 * nG f < k) → k < 147 → tellW f 1 a c d k = f k := fun k h0 hk h1 => by
    show va_up (va_up (va_up (va_up f (43 + 2 * nG f) (nI a)) (44 + 2 * nG f) (nI c)) (147 + 817 * nG f) 0) 1 (nI (nG f + 1)) k = _
    rw [va_o _ _ h0, va_o _ _ (by omega), va_o _ _ (by omega), va_o _ _ (by omega)]
  have x1 : tellW f 1 a c d (43 + 2 * nG f) = nI a := by
    show va_up (va_up (va_up (va_up f (43 + 2 * nG f) (nI a)) (44 + 2 * nG f) (nI c)) (147 + 817 * nG f) 0) 1 (nI (nG f + 1)) _ = _
    rw [va_o _ _ (by omega), va_o _ _ (by omega), va_o _ _ (by omega), va_e]
  have x2 : tellW f 1 a c d (44 + 2 * nG f) = nI c := by
    show va_up (va_up (va_up (va_up f (43 + 2 * nG f) (nI a)) (44 + 2 * nG f) (nI c)) (147 + 817 * nG f) 0) 1 (nI (nG f + 1)) _ = _
    rw [va_o _ _ (by omega), va_o _ _ (by omega), va_e]
  generalize tellW f 1 a c d = f2 at e0 e x1 x2
  have eR : nR f2 = nR f := by unfold nR; rw [e 0 (by omega) (by omega) (by omega)]
  have eG : nG f2 = nG f + 1 := by unfold nG; rw [e0, ncl (by omega)]; rfl
  have eT : nT f2 = nT f := by unfold nT; rw [e 2 (by omega) (by omega) (by omega)]
  have eX : nX f2 = nX f := by unfold nX; rw [e 3 (by omega) (by omega) (by omega)]
  have eB : nB f2 = nB f := by unfold nB; rw [e 4 (by omega) (by omega) (by omega)]
  have eD : nD f2 = nD f := by unfold nD; rw [e 5 (by omega) (by omega) (by omega)]
  have eS : sR f2 = sR f := by unfold sR; rw [e 6 (by omega) (by omega) (by omega)]
  unfold Inv
  rw [eR, eG, eT, eX, eB, eD, eS, e0, e 0 (by omega) (by omega) (by omega), e 2 (by omega) (by omega) (by omega), e 3 (by omega) (by omega) (by omega), e 4 (by omega) (by omega) (by omega), e 5 (by omega) (by omega) (by omega), e 6 (by omega) (by omega) (by omega), e 7 (by omega) (by omega) (by omega), e 8 (by omega) (by omega) (by omega), e 9 (by omega) (by omega) (by omega)]
  refine ⟨i.1, ⟨rfl, by omega⟩, i.2.2.1, i.2.2.2.1, i.2.2.2.2.1, i.2.2.2.2.2.1, iSr i, i7 i, i8 i, i9 i, fun r hr => ?_, fun g hg => ?_, fun t ht => ?_, fun b hb => ?_⟩
  · rw [e _ (by omega) (by omega) (by omega), e _ (by omega) (by omega) (by omega), e _ (by omega) (by omega) (by omega), e _ (by omega) (by omega) (by omega)]
    exact irm i r hr
  · by_cases q : g = nG f
    · have es : sit f2 g = c := by unfold sit; rw [q, x2, ncl (by omega)]
      rw [es, q, x1, x2]
      exact ⟨bw_n (by omega) (by omega) (by omega), rfl, o4⟩
    · have es : sit f2 g = sit f g := by unfold sit; rw [e _ (by omega) (by omega) (by omega)]
      rw [es, e _ (by omega) (by omega) (by omega), e _ (by omega) (by omega) (by omega)]
      exact igs i g (by omega)
  · have es : tin f2 t = tin f t := by unfold tin; rw [e _ (by omega) (by omega) (by omega)]
    rw [es, e _ (by omega) (by omega) (by omega), e _ (by omega) (by omega) (by omega), e _ (by omega) (by omega) (by omega)]
    exact itr i t ht
  · rw [e _ (by omega) (by omega) (by omega), e _ (by omega) (by omega) (by omega), e _ (by omega) (by omega) (by omega)]
    obtain ⟨y1, ⟨g, y2, y3⟩, y4⟩ := ibk i b hb
    exact ⟨y1, ⟨g, by omega, y3⟩, y4⟩
theorem Inv_2 (i : Inv f) {a c d : Nat} (o : okRow f 2 a c d) : Inv (tellW f 2 a c d) := by
  obtain ⟨o1, o2, o3, o4⟩ := o
  have b20 := iB20 i
  have r8 := iR8 i
  have g5 := iG5 i
  have e0 : tellW f 2 a c d 2 = nI (nT f + 1) := va_e _ _ _
  have e : ∀ k, k ≠ 2 → (k < 53 + 3 * nT f ∨ 55 + 3 * nT f < k) → tellW f 2 a c d k = f k := fun k h0 hk => by
    show va_up (va_up (va_up (va_up f (53 + 3 * nT f) (nI a)) (54 + 3 * nT f) (nI c)) (55 + 3 * nT f) (nI d)) 2 (nI (nT f + 1)) k = _
    rw [va_o _ _ h0, va_o _ _ (by omega), va_o _ _ (by omega), va_o _ _ (by omega)]
  have x1 : tellW f 2 a c d (53 + 3 * nT f) = nI a := by
    show va_up (va_up (va_up (va_up f (53 + 3 * nT f) (nI a)) (54 + 3 * nT f) (nI c)) (55 + 3 * nT f) (nI d)) 2 (nI (nT f + 1)) _ = _
    rw [va_o _ _ (by omega), va_o _ _ (by omega), va_o _ _ (by omega), va_e]
  have x2 : tellW f 2 a c d (54 + 3 * nT f) = nI c := by
    show va_up (va_up (va_up (va_up f (53 + 3 * nT f) (nI a)) (54 + 3 * nT f) (nI c)) (55 + 3 * nT f) (nI d)) 2 (nI (nT f + 1)) _ = _
    rw [va_o _ _ (by omega), va_o _ _ (by omega), va_e]
  have x3 : tellW f 2 a c d (55 + 3 * nT f) = nI d := by
    show va_up (va_up (va_up (va_up f (53 + 3 * nT f) (nI a)) (54 + 3 * nT f) (nI c)) (55 + 3 * nT f) (nI d)) 2 (nI (nT f + 1)) _ = _
    rw [va_o _ _ (by omega), va_e]
  generalize tellW f 2 a c d = f2 at e0 e x1 x2 x3
  have eR : nR f2 = nR f := by unfold nR; rw [e 0 (by omega) (by omega)]
  have eG : nG f2 = nG f := by unfold nG; rw [e 1 (by omega) (by omega)]
  have eT : nT f2 = nT f + 1 := by unfold nT; rw [e0, ncl (by omega)]; rfl
  have eX : nX f2 = nX f := by unfold nX; rw [e 3 (by omega) (by omega)]
  have eB : nB f2 = nB f := by unfold nB; rw [e 4 (by omega) (by omega)]
  have eD : nD f2 = nD f := by unfold nD; rw [e 5 (by omega) (by omega)]
  have eS : sR f2 = sR f := by unfold sR; rw [e 6 (by omega) (by omega)]
  unfold Inv
  rw [eR, eG, eT, eX, eB, eD, eS, e0, e 0 (by omega) (by omega), e 1 (by omega) (by omega), e 3 (by omega) (by omega), e 4 (by omega) (by omega), e 5 (by omega) (by omega), e 6 (by omega) (by omega), e 7 (by omega) (by omega), e 8 (by omega) (by omega), e 9 (by omega) (by omega)]
  refine ⟨i.1, i.2.1, ⟨rfl, by omega⟩, i.2.2.2.1, i.2.2.2.2.1, i.2.2.2.2.2.1, iSr i, i7 i, i8 i, i9 i, fun r hr => ?_, fun g hg => ?_, fun t ht => ?_, fun b hb => ?_⟩
  · rw [e _ (by omega) (by omega), e _ (by omega) (by omega), e _ (by omega) (by omega), e _ (by omega) (by omega)]
    exact irm i r hr
  · have es : sit f2 g = sit f g := by unfold sit; rw [e _ (by omega) (by omega)]
    rw [es, e _ (by omega) (by omega), e _ (by omega) (by omega)]
    exact igs i g hg
  · by_cases q : t = nT f
    · have es : tin f2 t = d := by unfold tin; rw [q, x3, ncl (by omega)]
      rw [es, q, x1, x2, x3]
      exact ⟨bw_n (by omega) (by omega) (by omega), bw_n (by omega) (by omega) (by omega), by rw [nI_toInt (by omega), nI_toInt (by omega)]; omega, rfl, o4⟩
    · have es : tin f2 t = tin f t := by unfold tin; rw [e _ (by omega) (by omega)]
      rw [es, e _ (by omega) (by omega), e _ (by omega) (by omega), e _ (by omega) (by omega)]
      exact itr i t (by omega)
  · rw [e _ (by omega) (by omega), e _ (by omega) (by omega), e _ (by omega) (by omega)]
    exact ibk i b hb
theorem Inv_one {k : Nat} {v : Int32} (i : Inv f) (hk : 6 ≤ k ∧ k < 43) (h6 : k ≠ 6) (h7 : k ≠ 7) (h8 : k = 8 → bw v 0 99999) (h9 : k = 9 → bw v 0 99999) (hr : ∀ r, r < nR f → (k = 11 + 4 * r → bw v (-9) 9) ∧ (k = 12 + 4 * r → bw v (-9) 9) ∧ (k = 13 + 4 * r → bw v 1 4) ∧ (k = 14 + 4 * r → bw v 0 999)) : Inv (va_up f k v) := by
  have e : ∀ j, j ≠ k → va_up f k v j = f j := fun j hj => va_o _ _ hj
  have ee : ∀ j (P : Int32 → Prop), P (f j) → (k = j → P v) → P (va_up f k v j) := fun j P h1 h2 => by
    by_cases q : k = j
    · subst q
      rw [va_e]
      exact h2 rfl
    · rw [e j (fun x => q x.symm)]
      exact h1
  have eS : sR (va_up f k v) = sR f := by unfold sR; rw [e 6 (fun x => h6 x.symm)]
  refine Inv_s i (fun j hj => e j (by omega)) ?_ ?_ ?_ ?_ (fun r hr2 => ?_) (fun j hj => e j (by omega))
  · rw [eS, e 6 (fun x => h6 x.symm), e 7 (fun x => h7 x.symm)]
    exact iSr i
  · rw [e 7 (fun x => h7 x.symm)]
    exact i7 i
  · exact ee 8 (fun x => bw x 0 99999) (i8 i) h8
  · exact ee 9 (fun x => bw x 0 99999) (i9 i) h9
  · obtain ⟨y1, y2, y3, y4⟩ := irm i r hr2
    obtain ⟨z1, z2, z3, z4⟩ := hr r hr2
    exact ⟨ee _ (fun x => bw x (-9) 9) y1 z1, ee _ (fun x => bw x (-9) 9) y2 z2, ee _ (fun x => bw x 1 4) y3 z3, ee _ (fun x => bw x 0 999) y4 z4⟩
theorem Inv_3 (i : Inv f) {a c d : Nat} (o : okRow f 3 a c d) : Inv (tellW f 3 a c d) := by
  obtain ⟨o1, o2⟩ := o
  have r8 := iR8 i
  show Inv (va_up (va_up f 7 (nI a)) 6 (nI c))
  have e : ∀ j, j ≠ 6 → j ≠ 7 → va_up (va_up f 7 (nI a)) 6 (nI c) j = f j := fun j h6 h7 => by rw [va_o _ _ h6, va_o _ _ h7]
  have e6 : va_up (va_up f 7 (nI a)) 6 (nI c) 6 = nI c := va_e _ _ _
  have e7 : va_up (va_up f 7 (nI a)) 6 (nI c) 7 = nI a := by rw [va_o _ _ (by decide), va_e]
  generalize va_up (va_up f 7 (nI a)) 6 (nI c) = f2 at e e6 e7
  have eS : sR f2 = c := by unfold sR; rw [e6, ncl (by omega)]
  refine Inv_s i (fun j hj => e j (by omega) (by omega)) ?_ ?_ ?_ ?_ (fun r hr2 => ?_) (fun j hj => e j (by omega) (by omega))
  · rw [eS, e6]
    exact ⟨rfl, by omega, Or.inl o2⟩
  · rw [e7]
    exact bw_n (by omega) (by omega) (by omega)
  · rw [e 8 (by omega) (by omega)]
    exact i8 i
  · rw [e 9 (by omega) (by omega)]
    exact i9 i
  · rw [e _ (by omega) (by omega), e _ (by omega) (by omega), e _ (by omega) (by omega), e _ (by omega) (by omega)]
    exact irm i r hr2
theorem Inv_tell (i : Inv f) {k a c d : Nat} (o : okRow f k a c d) : Inv (tellW f k a c d) := by
  have r8 := iR8 i
  have hk : k = 0 ∨ k = 1 ∨ k = 2 ∨ k = 3 ∨ k = 4 ∨ k = 5 ∨ k = 6 ∨ k = 7 ∨ k = 8 ∨ 9 ≤ k := by omega
  rcases hk with rfl | rfl | rfl | rfl | rfl | rfl | rfl | rfl | rfl | hk
  · exact Inv_0 i o
  · exact Inv_1 i o
  · exact Inv_2 i o
  · exact Inv_3 i o
  · obtain ⟨o1, o2⟩ := o
    exact Inv_one i (by omega) (by omega) (by omega) (by omega) (by omega) (fun r hr => ⟨by omega, by omega, by omega, fun _ => bw_n (by omega) (by omega) (by omega)⟩)
  · have o : a ≤ 99999 := o
    exact Inv_one i (by omega) (by omega) (by omega) (fun _ => bw_n (by omega) (by omega) (by omega)) (by omega) (fun r hr => ⟨by omega, by omega, by omega, by omega⟩)
  · have o : a ≤ 99999 := o
    exact Inv_one i (by omega) (by omega) (by omega) (by omega) (fun _ => bw_n (by omega) (by omega) (by omega)) (fun r hr => ⟨by omega, by omega, by omega, by omega⟩)
  · have o : a < nR f := o
    exact Inv_one i (by omega) (by omega) (by omega) (by omega) (by omega) (fun r hr => ⟨fun _ => bw_neg (irm i a o).1, by omega, by omega, by omega⟩)
  · have o : a < nR f := o
    exact Inv_one i (by omega) (by omega) (by omega) (by omega) (by omega) (fun r hr => ⟨by omega, fun _ => bw_neg (irm i a o).2.1, by omega, by omega⟩)
  · obtain ⟨k, rfl⟩ : ∃ x, k = x + 9 := ⟨k - 9, by omega⟩
    exact absurd o (by
      show ¬ False
      exact id)
end TELL2
