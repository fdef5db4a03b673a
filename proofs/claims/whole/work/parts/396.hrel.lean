/-! THE HOUSE'S LINES: the relation, and its step -/
section HREL
variable {h : Hp} {b : Nat → Int32} {n : Nat} {F : Nat → Int32}
def RHs (b : Nat → Int32) (n : Nat) (F : Nat → Int32) (J0 K0 : Nat → Nat → Int32) (G0 : Nat → Int32) (i : Nat) (J K : Nat → Nat → Int32) (G : Nat → Int32) : Prop :=
  TC b n J F ∧ TM b n K G ∧ J 36 0 = nI i ∧ G = G0 ∧ (∀ a, a ≠ 36 → a ≠ 37 → J a = J0 a) ∧ (∀ a, a ≠ 60 → K a = K0 a) ∧ okR (J 37) (K0 60) i ∧ K 60 = foldW (J 37) (K0 60) i ∧ J 36 2 = nI (nR (K 60)) ∧ J 36 3 = nI (nG (K 60)) ∧ J 36 4 = nI (nT (K 60))
def RHF (J0 K0 : Nat → Nat → Int32) (G0 : Nat → Int32) (J K : Nat → Nat → Int32) (G : Nat → Int32) : Prop := G = G0 ∧ (∀ a, a ≠ 36 → a ≠ 37 → J a = J0 a) ∧ (∀ a, a ≠ 60 → K a = K0 a)
theorem RH_F {J0 K0 J K : Nat → Nat → Int32} {G0 G : Nat → Int32} {i : Nat} (r : RHs b n F J0 K0 G0 i J K G) : TC b n J F ∧ TM b n K G ∧ RHF J0 K0 G0 J K G := ⟨r.1, r.2.1, r.2.2.2.1, r.2.2.2.2.1, r.2.2.2.2.2.1⟩
/-- a line more -/
theorem RH_s {J0 K0 J K J' K' : Nat → Nat → Int32} {G0 G : Nat → Int32} {i k a c d : Nat} (r : RHs b n F J0 K0 G0 i J K G) (fJ : ∀ x, x ≠ 36 → x ≠ 37 → J' x = J x) (fR : ∀ x, x < 4 * i → J' 37 x = J 37 x) (fK : ∀ x, x ≠ 60 → K' x = K x) (w0 : nN (J' 37 (4 * i)) = k) (w1 : nN (J' 37 (4 * i + 1)) = a) (w2 : nN (J' 37 (4 * i + 2)) = c) (w3 : nN (J' 37 (4 * i + 3)) = d) (o : okRow (K 60) k a c d) (eK : K' 60 = tellW (K 60) k a c d) (c2 : J' 36 2 = nI (nR (K' 60))) (c3 : J' 36 3 = nI (nG (K' 60))) (c4 : J' 36 4 = nI (nT (K' 60))) : RHs b n F J0 K0 G0 (i + 1) (up2 J' 36 0 (nI (i + 1))) K' G := by
  obtain ⟨tc, tm, e0, eG, gJ, gK, ok, eF, d2, d3, d4⟩ := r
  have e37 : up2 J' 36 0 (nI (i + 1)) 37 = J' 37 := up2_a _ _ _ _ _ (by decide)
  have ef : foldW (J' 37) (K0 60) i = K 60 := by rw [foldW_c i fR]; exact eF.symm
  refine ⟨⟨tc.1, tc.2.1, fun j hj => ?_⟩, ⟨tm.1, tm.2.1, fun j hj => ?_⟩, up2_e _ _ _ _, eG, fun x h1 h2 => ?_, fun x h1 => (fK x h1).trans (gK x h1), ?_, ?_, ?_, ?_, ?_⟩
  · rw [up2_a _ _ _ _ _ (by decide), fJ 2 (by decide) (by decide)]
    exact tc.2.2 j hj
  · rw [fK 63 (by decide)]
    exact tm.2.2 j hj
  · rw [up2_a _ _ _ _ _ h1, fJ x h1 h2]
    exact gJ x h1 h2
  · rw [e37]
    intro j hj
    by_cases q : j = i
    · subst q
      rw [ef, w0, w1, w2, w3]
      exact o
    · exact okR_c fR ok j (by omega)
  · rw [e37]
    show K' 60 = tellW (foldW (J' 37) (K0 60) i) _ _ _ _
    rw [ef, w0, w1, w2, w3]
    exact eK
  · rw [up2_k _ _ _ _ _ (by decide)]
    exact c2
  · rw [up2_k _ _ _ _ _ (by decide)]
    exact c3
  · rw [up2_k _ _ _ _ _ (by decide)]
    exact c4
end HREL
