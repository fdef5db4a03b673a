/-! WHAT BOTH SIDES COMPUTE, over the world f as the reference lays it out -/
def nR (f : Nat → Int32) : Nat := (f 0).toNatClampNeg
def nG (f : Nat → Int32) : Nat := (f 1).toNatClampNeg
def nT (f : Nat → Int32) : Nat := (f 2).toNatClampNeg
def nX (f : Nat → Int32) : Nat := (f 3).toNatClampNeg
def nB (f : Nat → Int32) : Nat := (f 4).toNatClampNeg
def nD (f : Nat → Int32) : Nat := (f 5).toNatClampNeg
def sR (f : Nat → Int32) : Nat := (f 6).toNatClampNeg
def sit (f : Nat → Int32) (g : Nat) : Nat := (f (44 + 2 * g)).toNatClampNeg
def tin (f : Nat → Int32) (t : Nat) : Nat := (f (55 + 3 * t)).toNatClampNeg
def bw (x : Int32) (a b : Int) : Prop := a ≤ x.toInt ∧ x.toInt ≤ b
def Inv (f : Nat → Int32) : Prop :=
  (f 0 = nI (nR f) ∧ nR f ≤ 8) ∧ (f 1 = nI (nG f) ∧ nG f ≤ 5) ∧ (f 2 = nI (nT f) ∧ nT f ≤ 6) ∧ (f 3 = nI (nX f) ∧ nX f ≤ 10) ∧ (f 4 = nI (nB f) ∧ nB f ≤ 20) ∧ (f 5 = nI (nD f) ∧ nD f ≤ 8) ∧
  (f 6 = nI (sR f) ∧ sR f < 8 ∧ (sR f < nR f ∨ (f 7 = 0 ∧ sR f = 0))) ∧ bw (f 7) 0 999 ∧ bw (f 8) 0 99999 ∧ bw (f 9) 0 99999 ∧
  (∀ r, r < nR f → bw (f (11 + 4 * r)) (-9) 9 ∧ bw (f (12 + 4 * r)) (-9) 9 ∧ bw (f (13 + 4 * r)) 1 4 ∧ bw (f (14 + 4 * r)) 0 999) ∧
  (∀ g, g < nG f → bw (f (43 + 2 * g)) 1 200 ∧ f (44 + 2 * g) = nI (sit f g) ∧ sit f g < nR f) ∧
  (∀ t, t < nT f → bw (f (53 + 3 * t)) 0 300 ∧ bw (f (54 + 3 * t)) 0 300 ∧ (f (53 + 3 * t)).toInt ≤ (f (54 + 3 * t)).toInt ∧ f (55 + 3 * t) = nI (tin f t) ∧ tin f t < nR f) ∧
  (∀ b, b < nB f → bw (f (71 + 3 * b)) 0 999 ∧ (∃ g, g < nG f ∧ f (72 + 3 * b) = nI g) ∧ (∃ r, r < nR f ∧ f (73 + 3 * b) = nI r))
section IV
variable {f : Nat → Int32}
theorem iR (i : Inv f) : f 0 = nI (nR f) := i.1.1
theorem iR8 (i : Inv f) : nR f ≤ 8 := i.1.2
theorem iG (i : Inv f) : f 1 = nI (nG f) := i.2.1.1
theorem iG5 (i : Inv f) : nG f ≤ 5 := i.2.1.2
theorem iT (i : Inv f) : f 2 = nI (nT f) := i.2.2.1.1
theorem iT6 (i : Inv f) : nT f ≤ 6 := i.2.2.1.2
theorem iX (i : Inv f) : f 3 = nI (nX f) := i.2.2.2.1.1
theorem iX10 (i : Inv f) : nX f ≤ 10 := i.2.2.2.1.2
theorem iB (i : Inv f) : f 4 = nI (nB f) := i.2.2.2.2.1.1
theorem iB20 (i : Inv f) : nB f ≤ 20 := i.2.2.2.2.1.2
theorem iD (i : Inv f) : f 5 = nI (nD f) := i.2.2.2.2.2.1.1
theorem iD8 (i : Inv f) : nD f ≤ 8 := i.2.2.2.2.2.1.2
theorem iSr (i : Inv f) : f 6 = nI (sR f) ∧ sR f < 8 ∧ (sR f < nR f ∨ (f 7 = 0 ∧ sR f = 0)) := i.2.2.2.2.2.2.1
theorem iS (i : Inv f) : f 6 = nI (sR f) ∧ sR f < 8 ∧ (sR f < nR f ∨ f 7 = 0) := ⟨(iSr i).1, (iSr i).2.1, (iSr i).2.2.imp id And.left⟩
theorem i7 (i : Inv f) : bw (f 7) 0 999 := i.2.2.2.2.2.2.2.1
theorem i8 (i : Inv f) : bw (f 8) 0 99999 := i.2.2.2.2.2.2.2.2.1
theorem i9 (i : Inv f) : bw (f 9) 0 99999 := i.2.2.2.2.2.2.2.2.2.1
theorem irm (i : Inv f) (r : Nat) (hr : r < nR f) : bw (f (11 + 4 * r)) (-9) 9 ∧ bw (f (12 + 4 * r)) (-9) 9 ∧ bw (f (13 + 4 * r)) 1 4 ∧ bw (f (14 + 4 * r)) 0 999 := i.2.2.2.2.2.2.2.2.2.2.1 r hr
theorem igs (i : Inv f) (g : Nat) (hg : g < nG f) : bw (f (43 + 2 * g)) 1 200 ∧ f (44 + 2 * g) = nI (sit f g) ∧ sit f g < nR f := i.2.2.2.2.2.2.2.2.2.2.2.1 g hg
theorem itr (i : Inv f) (t : Nat) (ht : t < nT f) : bw (f (53 + 3 * t)) 0 300 ∧ bw (f (54 + 3 * t)) 0 300 ∧ (f (53 + 3 * t)).toInt ≤ (f (54 + 3 * t)).toInt ∧ f (55 + 3 * t) = nI (tin f t) ∧ tin f t < nR f := i.2.2.2.2.2.2.2.2.2.2.2.2.1 t ht
theorem ibk (i : Inv f) (b : Nat) (hb : b < nB f) : bw (f (71 + 3 * b)) 0 999 ∧ (∃ g, g < nG f ∧ f (72 + 3 * b) = nI g) ∧ (∃ r, r < nR f ∧ f (73 + 3 * b) = nI r) := i.2.2.2.2.2.2.2.2.2.2.2.2.2 b hb
theorem ipl (i : Inv f) {r b : Nat} (hr : r < nR f) (hb : b < 2) : bw (f (11 + 4 * r + b)) (-9) 9 := by
  have q := irm i r hr
  have : b = 0 ∨ b = 1 := by omega
  rcases this with rfl | rfl
  · exact q.1
  · rw [show 11 + 4 * r + 1 = 12 + 4 * r by omega]
    exact q.2.1
end IV
/-- what snow does, and the stove, were it in q -/
def thg (f : Nat → Int32) (b q : Nat) : Int32 := accN (f 7 * f (11 + 4 * q + b)) (fun r => f (14 + 4 * r) * f (11 + 4 * r + b)) (nR f)
def gst (f : Nat → Int32) (b : Nat) (s : Nat → Nat) : Int32 := accN 0 (fun g => f (43 + 2 * g) * f (11 + 4 * s g + b)) (nG f)
def netS (f : Nat → Int32) (b : Nat) (s : Nat → Nat) : Int32 := thg f b (sR f) + gst f b s
def lowS (f : Nat → Int32) (b : Nat) (t : Nat → Nat) : Int32 := accN 0 (fun k => f (11 + 4 * t k + b) * (if 0 ≤ f (11 + 4 * t k + b) then f (53 + 3 * k) else f (54 + 3 * k))) (nT f)
def higS (f : Nat → Int32) (b : Nat) (t : Nat → Nat) : Int32 := accN 0 (fun k => f (11 + 4 * t k + b) * (if 0 ≤ f (11 + 4 * t k + b) then f (54 + 3 * k) else f (53 + 3 * k))) (nT f)
def lev1 (f : Nat → Int32) (b : Nat) (n : Int32) (t : Nat → Nat) : Bool := !decide (n + lowS f b t < 0 - f 8) && !decide (f 8 < n + higS f b t)
def levS (f : Nat → Int32) (x y : Int32) (t : Nat → Nat) : Bool := lev1 f 0 x t && lev1 f 1 y t
def b2 (b : Bool) : Int32 := if b then 1 else 0
theorem b2_or (b : Bool) : b2 b = 0 ∨ b2 b = 1 := by cases b <;> simp [b2]
theorem b2_t : b2 true = 1 := rfl
theorem b2_f : b2 false = 0 := rfl
theorem b2_0 (b : Bool) : (b2 b = 0) = (b = false) := by cases b <;> simp [b2]
theorem b2_g {α : Type} (b : Bool) (k : Option α) : gd (decide (b2 b = 0 ∨ b2 b = 1)) k = k := gd_d (b2_or b) k
theorem z_g {α : Type} (k : Option α) : gd (decide ((0 : Int32) = 0 ∨ (0 : Int32) = 1)) k = k := gd_d (Or.inl rfl) k
theorem o_g {α : Type} (k : Option α) : gd (decide ((1 : Int32) = 0 ∨ (1 : Int32) = 1)) k = k := gd_d (Or.inr rfl) k
/-- x times the least or the most, by the side of the pin -/
theorem min_mul {a b x : Int32} (ha : bw a 0 300) (hb : bw b 0 300) (hab : a.toInt ≤ b.toInt) (hx : bw x (-9) 9) : jmin (a * x) (b * x) = x * (if 0 ≤ x then a else b) ∧ jmax (a * x) (b * x) = x * (if 0 ≤ x then b else a) := by
  obtain ⟨a1, a2⟩ := ha
  obtain ⟨b1, b2⟩ := hb
  obtain ⟨x1, x2⟩ := hx
  have hk : ∀ c : Int32, 0 ≤ c.toInt → c.toInt ≤ 300 → -2700 ≤ c.toInt * x.toInt ∧ c.toInt * x.toInt ≤ 2700 := by
    intro c c1 c2
    have h1 : c.toInt * x.toInt ≤ c.toInt * 9 := Int.mul_le_mul_of_nonneg_left x2 c1
    have h2 : c.toInt * -9 ≤ c.toInt * x.toInt := Int.mul_le_mul_of_nonneg_left x1 c1
    omega
  have ka := hk a a1 a2
  have kb := hk b b1 b2
  have ea : (a * x).toInt = a.toInt * x.toInt := fb_mulI (by omega) (by omega)
  have eb : (b * x).toInt = b.toInt * x.toInt := fb_mulI (by omega) (by omega)
  by_cases hz : 0 ≤ x
  · have hz' : 0 ≤ x.toInt := (fa_le 0 x).mp hz
    have hle : a.toInt * x.toInt ≤ b.toInt * x.toInt := Int.mul_le_mul_of_nonneg_right hab hz'
    rw [if_pos hz, if_pos hz, Int32.mul_comm x a, Int32.mul_comm x b]
    constructor
    · unfold jmin
      rw [if_neg]
      rw [fa_lt, ea, eb]
      omega
    · unfold jmax
      by_cases q : a * x < b * x
      · rw [if_pos q]
      · rw [if_neg q]
        rw [fa_lt, ea, eb] at q
        rw [fa_eq, ea, eb]
        omega
  · have hz' : x.toInt < 0 := by
      rw [fa_le] at hz
      have : (0 : Int32).toInt = 0 := rfl
      omega
    have hle : b.toInt * x.toInt ≤ a.toInt * x.toInt := Int.mul_le_mul_of_nonpos_right hab (by omega)
    rw [if_neg hz, if_neg hz, Int32.mul_comm x a, Int32.mul_comm x b]
    constructor
    · unfold jmin
      by_cases q : b * x < a * x
      · rw [if_pos q]
      · rw [if_neg q]
        rw [fa_lt, ea, eb] at q
        rw [fa_eq, ea, eb]
        omega
    · unfold jmax
      rw [if_neg]
      rw [fa_lt, ea, eb]
      omega
