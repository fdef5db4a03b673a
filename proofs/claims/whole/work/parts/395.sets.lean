/-! THE HOUSE'S LINES: the reference sets a number -/
section SETS
variable {h : Hp} {b : Nat → Int32} {n : Nat} {K : Nat → Nat → Int32} {G : Nat → Int32} {p g x v : Nat}
theorem m_sets1 (s : Sh h) (hx : x < 5049) (hv : v < 2147483648) : F_X12_sets 59 (nI x) (nI v) (rfT h K G p g) = some (1, rfT h (up2 K 60 x (nI v)) G p g) := by
  unfold F_X12_sets F_X12_sets_b0
  rw [m_k, gd_d (k59 s), m_R, r59_1 s, ob_s, m_k, gd_d (k60 s), m_l, l60 s, ix_t hx (by omega), gd_t, if_neg (nI_pos hv), ncl (by omega), m_seta _ _ (by decide)]
  rfl
theorem m_sets0 (s : Sh h) (hx : x < 5049) : F_X12_sets 59 (nI x) (-1) (rfT h K G p g) = some (0, rfT h (up2 K 60 x (-1)) G p g) := by
  unfold F_X12_sets F_X12_sets_b0
  rw [m_k, gd_d (k59 s), m_R, r59_1 s, ob_s, m_k, gd_d (k60 s), m_l, l60 s, ix_t hx (by omega), gd_t, if_pos (by decide), ncl (by omega), m_seta _ _ (by decide)]
  rfl
theorem sort_house : SortOk 0 (fun _ => F_X12_readHouseLine 59) 14 := by
  intro hM sM b n K G p g i tm hp hi
  have e : F_X12_readLine 59 0 (nI i) (rfT hM K G p g) = F_X12_readLine_b26 59 0 (nI i) (nI i) 14 (rfT hM K G (tW b n (tS b n p)) (tS b n p)) := by
    unfold F_X12_readLine F_X12_readLine_b0
    rw [m_letters sM tm hp, ob2_s, m_k, gd_d (k59 sM), if_pos rfl]
  constructor
  · intro hi2
    rw [e]
    unfold F_X12_readLine_b26
    rw [if_pos (by rw [hi2]; rfl)]
  · intro hi2 r h' hr h01
    have hr : F_X12_readHouseLine 59 (rfT hM K G (tW b n (tS b n p)) (tS b n p)) = some (r, h') := hr
    rw [e]
    unfold F_X12_readLine_b26
    have n14 : ¬ nI i = (14 : Int32) := fun x => absurd ((nI_eq (a := i) (b := 14) (by omega) (by omega)).mp x) (by omega)
    rw [if_neg n14, if_pos rfl, hr, ob2_s, m_k, gd_d (k59 sM)]
    unfold F_X12_readLine_b60
    rw [gd_d h01]
theorem sort_wish : SortOk 1 (F_X12_readWish 59) 8 := by
  intro hM sM b n K G p g i tm hp hi
  have e : F_X12_readLine 59 1 (nI i) (rfT hM K G p g) = F_X12_readLine_b26 59 1 (nI i) (nI i) 8 (rfT hM K G (tW b n (tS b n p)) (tS b n p)) := by
    unfold F_X12_readLine F_X12_readLine_b0
    rw [m_letters sM tm hp, ob2_s, m_k, gd_d (k59 sM), if_neg (by decide), if_pos rfl]
  constructor
  · intro hi2
    rw [e]
    unfold F_X12_readLine_b26
    rw [if_pos (by rw [hi2]; rfl)]
  · intro hi2 r h' hr h01
    rw [e]
    unfold F_X12_readLine_b26
    have n8 : ¬ nI i = (8 : Int32) := fun x => absurd ((nI_eq (a := i) (b := 8) (by omega) (by omega)).mp x) (by omega)
    rw [if_neg n8, if_neg (by decide), if_pos rfl, hr, ob2_s, m_k, gd_d (k59 sM)]
    unfold F_X12_readLine_b60
    rw [gd_d h01]
end SETS
