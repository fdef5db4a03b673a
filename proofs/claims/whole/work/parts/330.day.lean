/-! A DAY, minute by minute -/
def cf (S : Nat → Int32) (g : Nat) : Nat := (S g).toNatClampNeg
def slU (f : Nat → Int32) (b : Nat) (d : Int) (t : Nat) (z : (Nat → Int32) × Nat) : (Nat → Int32) × Nat := if nxS f b d (cf z.1 t) = -1 then z else (va_up z.1 t (nxS f b d (cf z.1 t)), z.2 + 1)
def slS (f : Nat → Int32) (b : Nat) (d : Int) (T : Nat → Int32) : (Nat → Int32) × Nat := foldN (slU f b d) (nT f) (T, 0)
def dirS (x s : Int32) : Int := if s < x then 1 else if x < 0 - s then -1 else 0
def wkS (f : Nat → Int32) (m : Nat) : Nat → (Nat → Int32) × Nat → (Nat → Int32) × Nat
  | 0, z => z
  | n + 1, z => if z.2 < nB f ∧ f (71 + 3 * z.2) = nI m then wkS f m n (va_up z.1 (f (72 + 3 * z.2)).toNatClampNeg (f (73 + 3 * z.2)), z.2 + 1) else z
/-- seats, line, trunks, how many slid, when it was spilled -/
abbrev DS := (Nat → Int32) × Nat × (Nat → Int32) × Nat × Int32
def mnT1 (f : Nat → Int32) (S T : Nat → Int32) : (Nat → Int32) × Nat := slS f 0 (dirS (netS f 0 (cf S)) (f 9)) T
def mnT2 (f : Nat → Int32) (S T : Nat → Int32) : (Nat → Int32) × Nat := slS f 1 (dirS (netS f 1 (cf S)) (f 9)) (mnT1 f S T).1
def mnL (f : Nat → Int32) (S T : Nat → Int32) : Bool := levS f (netS f 0 (cf S)) (netS f 1 (cf S)) (cf T)
def mnE (f : Nat → Int32) (m : Nat) (S : Nat → Int32) (L : Nat) (T : Nat → Int32) (sl : Nat) (sp : Int32) : DS := (S, L, (mnT2 f S T).1, sl + ((mnT1 f S T).2 + (mnT2 f S T).2), if sp = -1 ∧ mnL f S (mnT2 f S T).1 = false then nI m else sp)
def mnU (f : Nat → Int32) (m : Nat) (z : DS) : DS := mnE f m (wkS f m 21 (z.1, z.2.1)).1 (wkS f m 21 (z.1, z.2.1)).2 z.2.2.1 z.2.2.2.1 z.2.2.2.2
section DAY
variable {f : Nat → Int32}
def okS (f : Nat → Int32) (n : Nat) (S : Nat → Int32) : Prop := ∀ g, g < n → ∃ r, r < nR f ∧ S g = nI r
theorem okS_cf {n : Nat} {S : Nat → Int32} (i : Inv f) (o : okS f n S) {g : Nat} (hg : g < n) : S g = nI (cf S g) ∧ cf S g < nR f := by
  obtain ⟨r, hr, e⟩ := o g hg
  have r8 := iR8 i
  have : cf S g = r := by
    unfold cf
    rw [e, nI_clamp (by omega)]
  rw [this]
  exact ⟨e, hr⟩
theorem sl_ok (i : Inv f) {b : Nat} {d : Int} {T : Nat → Int32} (o : okS f (nT f) T) : ∀ j, j ≤ nT f → okS f (nT f) (foldN (slU f b d) j (T, 0)).1 ∧ (foldN (slU f b d) j (T, 0)).2 ≤ j ∧ ∀ t, nT f ≤ t → (foldN (slU f b d) j (T, 0)).1 t = T t := by
  refine foldN_inv (fun j (z : (Nat → Int32) × Nat) => okS f (nT f) z.1 ∧ z.2 ≤ j ∧ ∀ t, nT f ≤ t → z.1 t = T t) (n := nT f) ⟨o, Nat.le_refl _, fun _ _ => rfl⟩ (fun j a hj ha => ?_)
  obtain ⟨h1, h2, h3⟩ := ha
  unfold slU
  by_cases c : nxS f b d (cf a.1 j) = -1
  · rw [if_pos c]
    exact ⟨h1, by omega, h3⟩
  · rw [if_neg c]
    refine ⟨fun t ht => ?_, by show a.2 + 1 ≤ j + 1; omega, fun t ht => ?_⟩
    · by_cases e : t = j
      · subst e
        show ∃ r, r < nR f ∧ va_up a.1 t (nxS f b d (cf a.1 t)) t = nI r
        rw [va_e]
        rcases nxS_inv f b d (cf a.1 t) with q | ⟨r, hr, q, -⟩
        · exact absurd q c
        · exact ⟨r, hr, q⟩
      · show ∃ r, r < nR f ∧ va_up a.1 j (nxS f b d (cf a.1 j)) t = nI r
        rw [va_n _ _ _ _ e]
        exact h1 t ht
    · show va_up a.1 j (nxS f b d (cf a.1 j)) t = T t
      rw [va_n _ _ _ _ (by omega)]
      exact h3 t ht
theorem slS_ok (i : Inv f) {b : Nat} {d : Int} {T : Nat → Int32} (o : okS f (nT f) T) : okS f (nT f) (slS f b d T).1 ∧ (slS f b d T).2 ≤ nT f ∧ ∀ t, nT f ≤ t → (slS f b d T).1 t = T t := sl_ok i o _ (Nat.le_refl _)
theorem nx_0 (b q : Nat) : nxS f b 0 q = -1 := by
  have := nxS_inv f b 0 q
  rcases this with e | ⟨r, -, -, h⟩
  · exact e
  · rw [Int.zero_mul] at h
    omega
theorem sl_0 (b : Nat) (T : Nat → Int32) : slS f b 0 T = (T, 0) := by
  have : ∀ j, j ≤ nT f → foldN (slU f b 0) j (T, 0) = (T, 0) := by
    refine foldN_inv (fun _ z => z = (T, 0)) (n := nT f) rfl (fun j a hj ha => ?_)
    unfold slU
    rw [nx_0, if_pos rfl, ha]
  exact this _ (Nat.le_refl _)
/-- nothing slid: nothing has changed -/
theorem sl_none {b : Nat} {d : Int} {T : Nat → Int32} (h : (slS f b d T).2 = 0) : (slS f b d T).1 = T := by
  have : ∀ j, j ≤ nT f → ((foldN (slU f b d) j (T, 0)).2 = 0 → (foldN (slU f b d) j (T, 0)).1 = T) := by
    refine foldN_inv (fun _ (z : (Nat → Int32) × Nat) => z.2 = 0 → z.1 = T) (n := nT f) (fun _ => rfl) (fun j a hj ha => ?_)
    unfold slU
    by_cases c : nxS f b d (cf a.1 j) = -1
    · rw [if_pos c]
      exact ha
    · rw [if_neg c]
      intro q
      exact absurd q (by show ¬ a.2 + 1 = 0; omega)
  exact this _ (Nat.le_refl _) h
theorem wk_ok (i : Inv f) (m : Nat) : ∀ (n : Nat) (z : (Nat → Int32) × Nat), okS f (nG f) z.1 → z.2 ≤ nB f → okS f (nG f) (wkS f m n z).1 ∧ (wkS f m n z).2 ≤ nB f ∧ z.2 ≤ (wkS f m n z).2 ∧ (∀ g, nG f ≤ g → (wkS f m n z).1 g = z.1 g) ∧ ((wkS f m n z).2 = z.2 → wkS f m n z = z)
  | 0, z, h1, h2 => ⟨h1, h2, Nat.le_refl _, fun _ _ => rfl, fun _ => rfl⟩
  | n + 1, z, h1, h2 => by
    have g5 := iG5 i
    unfold wkS
    by_cases c : z.2 < nB f ∧ f (71 + 3 * z.2) = nI m
    · rw [if_pos c]
      obtain ⟨-, ⟨g, hg, eg⟩, ⟨r, hr, er⟩⟩ := ibk i z.2 c.1
      have cg : (f (72 + 3 * z.2)).toNatClampNeg = g := by rw [eg, nI_clamp (by omega)]
      rw [cg]
      obtain ⟨k1, k2, k3, k4, k5⟩ := wk_ok i m n (va_up z.1 g (f (73 + 3 * z.2)), z.2 + 1) (fun g2 h3 => by
        by_cases e : g2 = g
        · subst e
          show ∃ r, r < nR f ∧ va_up z.1 g2 (f (73 + 3 * z.2)) g2 = nI r
          rw [va_e]
          exact ⟨r, hr, er⟩
        · show ∃ r, r < nR f ∧ va_up z.1 g (f (73 + 3 * z.2)) g2 = nI r
          rw [va_n _ _ _ _ e]
          exact h1 g2 h3) (by show z.2 + 1 ≤ nB f; omega)
      have k3' : z.2 + 1 ≤ (wkS f m n (va_up z.1 g (f (73 + 3 * z.2)), z.2 + 1)).2 := k3
      refine ⟨k1, k2, by omega, fun g2 h3 => ?_, fun q => by omega⟩
      rw [k4 g2 h3]
      show va_up z.1 g (f (73 + 3 * z.2)) g2 = z.1 g2
      rw [va_n _ _ _ _ (by omega)]
    · rw [if_neg c]
      exact ⟨h1, h2, Nat.le_refl _, fun _ _ => rfl, fun _ => rfl⟩
/-- what holds of a state all day long -/
def dyI (f : Nat → Int32) (S0 T0 : Nat → Int32) (m : Nat) (z : DS) : Prop := okS f (nG f) z.1 ∧ z.2.1 ≤ nB f ∧ okS f (nT f) z.2.2.1 ∧ z.2.2.2.1 ≤ 12 * m ∧ (∀ g, nG f ≤ g → z.1 g = S0 g) ∧ (∀ t, nT f ≤ t → z.2.2.1 t = T0 t) ∧ (z.2.2.2.2 = -1 ∨ ∃ n, n < 1000 ∧ z.2.2.2.2 = nI n)
theorem mnU_ok (i : Inv f) {S0 T0 : Nat → Int32} {m : Nat} (hm : m < 1000) {z : DS} (h : dyI f S0 T0 m z) : dyI f S0 T0 (m + 1) (mnU f m z) := by
  obtain ⟨h1, h2, h3, h4, h5, h6, h7⟩ := h
  obtain ⟨k1, k2, -, k4, -⟩ := wk_ok i m 21 (z.1, z.2.1) h1 h2
  have t6 := iT6 i
  obtain ⟨a1, a2, a3⟩ := slS_ok i (b := 0) (d := dirS (netS f 0 (cf (wkS f m 21 (z.1, z.2.1)).1)) (f 9)) h3
  obtain ⟨b1, b2, b3⟩ := slS_ok i (b := 1) (d := dirS (netS f 1 (cf (wkS f m 21 (z.1, z.2.1)).1)) (f 9)) a1
  refine ⟨k1, k2, b1, ?_, fun g hg => (k4 g hg).trans (h5 g hg), fun t ht => ((b3 t ht).trans (a3 t ht)).trans (h6 t ht), ?_⟩
  · have e1 : (mnT1 f (wkS f m 21 (z.1, z.2.1)).1 z.2.2.1).2 ≤ nT f := a2
    have e2 : (mnT2 f (wkS f m 21 (z.1, z.2.1)).1 z.2.2.1).2 ≤ nT f := b2
    show z.2.2.2.1 + ((mnT1 f (wkS f m 21 (z.1, z.2.1)).1 z.2.2.1).2 + (mnT2 f (wkS f m 21 (z.1, z.2.1)).1 z.2.2.1).2) ≤ 12 * (m + 1)
    omega
  · by_cases c : z.2.2.2.2 = -1 ∧ mnL f (wkS f m 21 (z.1, z.2.1)).1 (mnT2 f (wkS f m 21 (z.1, z.2.1)).1 z.2.2.1).1 = false
    · exact Or.inr ⟨m, hm, if_pos c⟩
    · have e : (mnU f m z).2.2.2.2 = z.2.2.2.2 := if_neg c
      rw [e]
      exact h7
/-- with no walk, and no slide the minute before, a minute changes nothing -/
def stl (f : Nat → Int32) (z : DS) : Prop := (mnT1 f z.1 z.2.2.1).2 = 0 ∧ (mnT2 f z.1 z.2.2.1).2 = 0 ∧ (z.2.2.2.2 = -1 → mnL f z.1 z.2.2.1 = true)
theorem mnE_st {m : Nat} {z : DS} (q : stl f z) : mnE f m z.1 z.2.1 z.2.2.1 z.2.2.2.1 z.2.2.2.2 = z := by
  obtain ⟨q1, q2, q3⟩ := q
  have e1 : (mnT1 f z.1 z.2.2.1).1 = z.2.2.1 := sl_none q1
  have e2 : (mnT2 f z.1 z.2.2.1).1 = (mnT1 f z.1 z.2.2.1).1 := sl_none q2
  unfold mnE
  rw [q1, q2, e2, e1, if_neg (fun w => by
    have := q3 w.1
    rw [w.2] at this
    cases this)]
  rfl
/-- after a minute in which nothing slid -/
theorem mnE_stl {m : Nat} {S : Nat → Int32} {L : Nat} {T : Nat → Int32} {sl : Nat} {sp : Int32} (hm : m < 1000) (q1 : (mnT1 f S T).2 = 0) (q2 : (mnT2 f S T).2 = 0) : stl f (mnE f m S L T sl sp) := by
  have e1 : (mnT1 f S T).1 = T := sl_none q1
  have e2 : (mnT2 f S T).1 = (mnT1 f S T).1 := sl_none q2
  have e3 : (mnE f m S L T sl sp).2.2.1 = T := e2.trans e1
  refine ⟨?_, ?_, ?_⟩
  · show (mnT1 f S (mnE f m S L T sl sp).2.2.1).2 = 0
    rw [e3, q1]
  · show (mnT2 f S (mnE f m S L T sl sp).2.2.1).2 = 0
    rw [e3, q2]
  · intro h
    show mnL f S (mnE f m S L T sl sp).2.2.1 = true
    have h' : (if sp = -1 ∧ mnL f S (mnT2 f S T).1 = false then nI m else sp) = -1 := h
    by_cases c : sp = -1 ∧ mnL f S (mnT2 f S T).1 = false
    · rw [if_pos c] at h'
      exact absurd h' (neg1_ne (by omega))
    · rw [if_neg c] at h'
      have : ¬ mnL f S (mnT2 f S T).1 = false := fun w => c ⟨h', w⟩
      have e4 : (mnE f m S L T sl sp).2.2.1 = (mnT2 f S T).1 := rfl
      rw [e4]
      cases w : mnL f S (mnT2 f S T).1 with
      | true => rfl
      | false => exact absurd w this
end DAY
