/-! TEXTS: the reference's scanner -/
section RSCAN
variable {h : Hp} {b : Nat → Int32} {n : Nat} {K : Nat → Nat → Int32} {G : Nat → Int32} {p g : Nat}
def rfS (h : Hp) (K : Nat → Nat → Int32) (G : Nat → Int32) : Hp := wI h (va_up K 59 G)
theorem rfS_k (a : Nat) : kd (rfS h K G) a = kd h a := rfl
theorem rfS_l (a : Nat) : zl (rfS h K G) a = zl h a := rfl
theorem rfS_R (a k : Nat) : zR (rfS h K G) a k = zR h a k := rfl
theorem rfS_1 (k : Nat) : zI (rfS h K G) 59 k = G k := by
  show va_up K 59 G 59 k = G k
  rw [va_e]
theorem rfS_a {a : Nat} (k : Nat) (ha : a ≠ 59) : zI (rfS h K G) a k = K a k := by
  show va_up K 59 G a k = K a k
  rw [va_n _ _ _ _ ha]
theorem rfS_set (k : Nat) (v : Int32) : setI (rfS h K G) 59 k v = rfS h K (va_up G k v) := by
  show wI h (up2 (va_up K 59 G) 59 k v) = _
  rw [up2_va]
  rfl
theorem rfS_seta {a : Nat} (k : Nat) (v : Int32) (ha : a ≠ 59) : setI (rfS h K G) a k v = rfS h (up2 K a k v) G := by
  show wI h (up2 (va_up K 59 G) a k v) = wI h (va_up (up2 K a k v) 59 G)
  congr 1
  funext c j
  by_cases e : c = a
  · subst e
    rw [va_n _ _ _ _ ha]
    by_cases e2 : j = k
    · subst e2
      rw [up2_e, up2_e]
    · rw [up2_k _ _ _ _ _ e2, up2_k _ _ _ _ _ e2, va_n _ _ _ _ ha]
  · rw [up2_a _ _ _ _ _ e]
    by_cases e2 : c = 59
    · subst e2
      rw [va_e, va_e]
    · rw [va_n _ _ _ _ e2, va_n _ _ _ _ e2, up2_a _ _ _ _ _ e]
/-- point and begin -/
def rF (G : Nat → Int32) (p g : Nat) : Nat → Int32 := fun k => if k = 7 then nI p else if k = 9 then nI g else G k
theorem rF_7 : rF G p g 7 = nI p := rfl
theorem rF_9 : rF G p g 9 = nI g := rfl
theorem rF_8 : rF G p g 8 = G 8 := rfl
theorem rF_o {k : Nat} (h7 : k ≠ 7) (h9 : k ≠ 9) : rF G p g k = G k := by
  unfold rF
  rw [if_neg h7, if_neg h9]
theorem rF_s7 (p2 : Nat) : va_up (rF G p g) 7 (nI p2) = rF G p2 g := by
  funext k
  rw [va_2]
  by_cases e : k = 7
  · subst e; rfl
  · rw [if_neg e]
    unfold rF
    rw [if_neg e, if_neg e]
theorem rF_s9 (g2 : Nat) : va_up (rF G p g) 9 (nI g2) = rF G p g2 := by
  funext k
  rw [va_2]
  by_cases e : k = 9
  · subst e; rfl
  · rw [if_neg e]
    unfold rF
    rw [if_neg e, if_neg e]
def rfT (h : Hp) (K : Nat → Nat → Int32) (G : Nat → Int32) (p g : Nat) : Hp := rfS h K (rF G p g)
/-- the text stands on the reference's tape -/
def TM (b : Nat → Int32) (n : Nat) (K : Nat → Nat → Int32) (G : Nat → Int32) : Prop := n ≤ 400 ∧ G 8 = nI n ∧ ∀ k, k < 400 → K 63 k = b k
theorem m_at1 (s : Sh h) (c : TM b n K G) {lo hi : Int32} (hp : p < n) (h1 : ¬ b p < lo) (h2 : ¬ hi < b p) : F_X12_isAt 59 lo hi (rfT h K G p g) = some 1 := by
  obtain ⟨hn, e8, e2⟩ := c
  unfold F_X12_isAt F_X12_isAt_b0 rfT
  simp only [rfS_k, k59 s, rfS_1, rF_8, e8, rF_7, if_neg (nI_ge hp (show n < 2147483648 by omega)), rfS_R, r59_5 s, k63 s, rfS_l, l63 s, ix_t (show p < 400 by omega) (show 400 < 2147483648 by omega), ncl (show p < 2147483648 by omega), rfS_a _ (show 63 ≠ 59 by decide), e2 _ (show p < 400 by omega), if_neg h1, if_neg h2, gd_t, ob_s, ob2_s, ob4_s, sm_l, sm_r, ac_s, decide_true, decide_false, eq_self, ne_eq, not_false_eq_true, not_true_eq_false, if_true, if_false, ite_true, ite_false, reduceIte, or_true, true_or, or_false, false_or, and_true, true_and, Bool.false_eq_true, reduceCtorEq]
  rfl
theorem m_at0 (s : Sh h) (c : TM b n K G) {lo hi : Int32} (hp : p ≤ n) (h1 : ¬ (p < n ∧ ¬ b p < lo ∧ ¬ hi < b p)) : F_X12_isAt 59 lo hi (rfT h K G p g) = some 0 := by
  obtain ⟨hn, e8, e2⟩ := c
  unfold F_X12_isAt F_X12_isAt_b0 rfT
  rw [rfS_k, gd_d (k59 s), rfS_1, rfS_1, rF_8, e8, rF_7]
  by_cases q : p < n
  · rw [if_neg (nI_ge q (by omega))]
    by_cases q1 : b p < lo
    · simp only [rfS_R, r59_5 s, rfS_k, k63 s, rfS_l, l63 s, ix_t (show p < 400 by omega) (show 400 < 2147483648 by omega), ncl (show p < 2147483648 by omega), rfS_a _ (show 63 ≠ 59 by decide), e2 _ (show p < 400 by omega), if_pos q1, gd_t, ob_s, ob2_s, ob4_s, sm_l, sm_r, ac_s, decide_true, decide_false, eq_self, ne_eq, not_false_eq_true, not_true_eq_false, if_true, if_false, ite_true, ite_false, reduceIte, or_true, true_or, or_false, false_or, and_true, true_and, Bool.false_eq_true, reduceCtorEq]
      rfl
    · have q2 : hi < b p := by
        by_cases q2 : hi < b p
        · exact q2
        · exact absurd ⟨q, q1, q2⟩ h1
      simp only [rfS_R, r59_5 s, rfS_k, k63 s, rfS_l, l63 s, ix_t (show p < 400 by omega) (show 400 < 2147483648 by omega), ncl (show p < 2147483648 by omega), rfS_a _ (show 63 ≠ 59 by decide), e2 _ (show p < 400 by omega), if_neg q1, if_pos q2, gd_t, ob_s, ob2_s, ob4_s, sm_l, sm_r, ac_s, decide_true, decide_false, eq_self, ne_eq, not_false_eq_true, not_true_eq_false, if_true, if_false, ite_true, ite_false, reduceIte, or_true, true_or, or_false, false_or, and_true, true_and, Bool.false_eq_true, reduceCtorEq]
      rfl
  · rw [if_pos (nI_le (by omega) (by omega))]
    rfl
theorem bl_n {v : Int32} : isBl v = true ↔ ¬ v < 32 ∧ ¬ 32 < v := by
  rw [bl_t, Int32.not_lt, Int32.not_lt]
  constructor
  · rintro rfl
    exact ⟨Int32.le_refl _, Int32.le_refl _⟩
  · rintro ⟨h1, h2⟩
    exact Int32.le_antisymm h2 h1
theorem m_s7 (p2 : Nat) : setI (rfT h K G p g) 59 7 (nI p2) = rfT h K G p2 g := by
  unfold rfT
  rw [rfS_set, rF_s7]
theorem m_r7 : zI (rfT h K G p g) 59 7 = nI p := rfS_1 7
theorem m_r9 : zI (rfT h K G p g) 59 9 = nI g := rfS_1 9
theorem m_r8 : zI (rfT h K G p g) 59 8 = G 8 := rfS_1 8
theorem m_k (a : Nat) : kd (rfT h K G p g) a = kd h a := rfl
theorem m_blanks (s : Sh h) (c : TM b n K G) (hp : p ≤ n) : F_X12_blanks 59 (rfT h K G p g) = some ((), rfT h K G (tS b n p) (tS b n p)) := by
  have hn := c.1
  unfold F_X12_blanks F_X12_blanks_b0
  have e : iter (fun z : Hp => F_X12_blanks_l0 59 z) FU (rfT h K G p g) = some (rfT h K G (tS b n p) g) := by
    refine it_to (St := fun k => rfT h K G k g) isBl (fun k hk hb => ?_) (fun k hk hb => ?_) hp hn
    · show F_X12_blanks_l0 59 (rfT h K G k g) = _
      have hb := bl_n.mp hb
      unfold F_X12_blanks_l0
      rw [m_at1 s c hk hb.1 hb.2, ob_s, m_k, gd_d (k59 s), if_neg (by decide), m_r7, nl_1, nadd, m_s7]
    · show F_X12_blanks_l0 59 (rfT h K G k g) = _
      unfold F_X12_blanks_l0
      rw [m_at0 s c hk (fun x => by have := hb x.1; rw [bl_n.mpr x.2] at this; cases this), ob_s, m_k, gd_d (k59 s), if_pos rfl]
  rw [e, ob_s, m_k, gd_d (k59 s), m_r7]
  unfold rfT
  rw [rfS_set, rF_s9]
theorem m_letters (s : Sh h) (c : TM b n K G) (hp : p ≤ n) : F_X12_letters 59 (rfT h K G p g) = some ((), rfT h K G (tW b n (tS b n p)) (tS b n p)) := by
  have hn := c.1
  unfold F_X12_letters F_X12_letters_b0
  rw [m_blanks s c hp, ob2_s, m_k, gd_d (k59 s)]
  have e : iter (fun z : Hp => F_X12_letters_l4 59 z) FU (rfT h K G (tS b n p) (tS b n p)) = some (rfT h K G (tW b n (tS b n p)) (tS b n p)) := by
    refine it_to (St := fun k => rfT h K G k (tS b n p)) isLe (fun k hk hb => ?_) (fun k hk hb => ?_) (tS_le hp) hn
    · show F_X12_letters_l4 59 (rfT h K G k (tS b n p)) = _
      have hb := le_t.mp hb
      unfold F_X12_letters_l4
      rw [m_at1 s c hk hb.1 hb.2, ob_s, m_k, gd_d (k59 s), if_neg (by decide), m_r7, nl_1, nadd, m_s7]
    · show F_X12_letters_l4 59 (rfT h K G k (tS b n p)) = _
      unfold F_X12_letters_l4
      rw [m_at0 s c hk (fun x => by have := hb x.1; rw [le_t.mpr x.2] at this; cases this), ob_s, m_k, gd_d (k59 s), if_pos rfl]
  rw [e, ob_s]
theorem m_isW_l (s : Sh h) (c : TM b n K G) {v : UInt32} {l : List Int32} (d : Wd v l) (hl : g + l.length ≤ n) : ∃ z, iter (fun z : Int32 × Int32 => F_X12_isWord_l24 59 v z.1 z.2 (rfT h K G p g)) FU ((1 : Int32), (0 : Int32)) = some z ∧ ((z = 1 ∧ ∀ i, i < l.length → b (g + i) = l.getD i 0) ∨ (z = 0 ∧ ∃ i, i < l.length ∧ b (g + i) ≠ l.getD i 0)) := by
  have hn := c.1
  have l20 := d.2.2.2
  refine iter_ex (body := fun z : Int32 × Int32 => F_X12_isWord_l24 59 v z.1 z.2 (rfT h K G p g)) (fun u z => ∃ i, z.2 = nI i ∧ ((z.1 = 1 ∧ i + u = l.length ∧ ∀ k, k < i → b (g + k) = l.getD k 0) ∨ (z.1 = 0 ∧ ∃ i, i < l.length ∧ b (g + i) ≠ l.getD i 0))) (fun z : Int32 => (z = 1 ∧ ∀ i, i < l.length → b (g + i) = l.getD i 0) ∨ (z = 0 ∧ ∃ i, i < l.length ∧ b (g + i) ≠ l.getD i 0)) (fun u z hI => ?_) FU l.length (1, 0) (FU_lt (by omega)) ⟨0, rfl, Or.inl ⟨rfl, by omega, fun k hk => absurd hk (by omega)⟩⟩
  obtain ⟨z1, z2⟩ := z
  obtain ⟨i, e2, hI⟩ := hI
  have e2 : z2 = nI i := e2
  subst e2
  show (∃ x, F_X12_isWord_l24 59 v z1 (nI i) (rfT h K G p g) = some (.inr x) ∧ _) ∨ (∃ s' j, j < u ∧ F_X12_isWord_l24 59 v z1 (nI i) (rfT h K G p g) = some (.inl s') ∧ _)
  rcases hI with ⟨e1, e, a⟩ | ⟨e1, i2, a1, a2⟩
  · have e1 : z1 = 1 := e1
    subst e1
    by_cases x : i = l.length
    · left
      refine ⟨1, ?_, Or.inl ⟨rfl, fun k hk => a k (by omega)⟩⟩
      unfold F_X12_isWord_l24
      rw [if_neg (by decide), gd_d d.1, Wd_len d, if_pos (nI_le (by omega) (by omega))]
    · right
      have hil : i < l.length ∨ l.length < i := by omega
      by_cases x2 : l.length < i
      · exfalso
        omega
      · have com : F_X12_isWord_l24 59 v 1 (nI i) (rfT h K G p g) = (if b (g + i) = l.getD i 0 then some (.inl (1, nI (i + 1))) else some (.inl (0, nI (i + 1)))) := by
          unfold F_X12_isWord_l24
          rw [if_neg (by decide), gd_d d.1, Wd_len d, if_neg (nI_ge (by omega) (by omega)), m_k, gd_d (k59 s)]
          unfold rfT
          rw [rfS_R, r59_5 s, ob_s, rfS_k, gd_d (k63 s), rfS_1, rF_9, nadd, rfS_l, l63 s, ix_t (by omega) (by omega), gd_t, gd_d d.1, d.2.1, ix_t (by omega) (by omega), gd_t, ncl (by omega), rfS_a _ (by decide), c.2.2 _ (by omega), Wd_ch d (by omega)]
          unfold F_X12_isWord_b60
          rw [nl_1, nadd]
        by_cases y : b (g + i) = l.getD i 0
        · refine ⟨(1, nI (i + 1)), u - 1, by omega, by rw [com, if_pos y], i + 1, rfl, Or.inl ⟨rfl, by omega, fun k hk => ?_⟩⟩
          by_cases z : k = i
          · rw [z]
            exact y
          · exact a k (by omega)
        · exact ⟨(0, nI (i + 1)), u - 1, by omega, by rw [com, if_neg y], i + 1, rfl, Or.inr ⟨rfl, i, by omega, y⟩⟩
  · have e1 : z1 = 0 := e1
    subst e1
    left
    refine ⟨0, ?_, Or.inr ⟨rfl, i2, a1, a2⟩⟩
    unfold F_X12_isWord_l24
    rw [if_pos rfl]
theorem m_isW_0 (v : UInt32) : iter (fun z : Int32 × Int32 => F_X12_isWord_l24 59 v z.1 z.2 (rfT h K G p g)) FU ((0 : Int32), (0 : Int32)) = some 0 := by
  refine iter_at (fun _ => ((0 : Int32), (0 : Int32))) 0 0 rfl (fun j hj => absurd hj (by omega)) ?_ (FU_lt (by omega))
  show F_X12_isWord_l24 59 v 0 0 _ = _
  unfold F_X12_isWord_l24
  rw [if_pos rfl]
/-- after letters -/
theorem m_isW (s : Sh h) (c : TM b n K G) (hg : g ≤ n) {v : UInt32} {l : List Int32} (d : Wd v l) : (tIs b n g l ∧ F_X12_isWord 59 v (rfT h K G (tW b n g) g) = some 1) ∨ (¬ tIs b n g l ∧ F_X12_isWord 59 v (rfT h K G (tW b n g) g) = some 0) := by
  have hn := c.1
  have l20 := d.2.2.2
  have hw : tW b n g ≤ n := tTo_le isLe b hg
  have gw : g ≤ tW b n g := tTo_ge isLe b n g
  unfold F_X12_isWord F_X12_isWord_b0
  rw [m_k, gd_d (k59 s), gd_d d.1, m_r7, m_r9, nsub gw, Wd_len d]
  by_cases x : tW b n g = g + l.length
  · rw [if_pos (by rw [x]; congr 1; omega)]
    unfold F_X12_isWord_b21
    obtain ⟨z, z1, z2⟩ := m_isW_l (p := tW b n g) (g := g) s c d (by omega)
    rw [z1, ob_s]
    rcases z2 with ⟨rfl, z2⟩ | ⟨rfl, i, z2, z3⟩
    · exact Or.inl ⟨⟨x, z2⟩, rfl⟩
    · exact Or.inr ⟨fun y => z3 (y.2 i z2), rfl⟩
  · refine Or.inr ⟨fun y => x y.1, ?_⟩
    rw [if_neg (fun y => x (by have := (nI_eq (by omega) (by omega)).mp y; omega))]
    unfold F_X12_isWord_b21
    rw [m_isW_0, ob_s]
    rfl
theorem m_isW1 (s : Sh h) (c : TM b n K G) (hg : g ≤ n) {v : UInt32} {l : List Int32} (d : Wd v l) (e : tIs b n g l) : F_X12_isWord 59 v (rfT h K G (tW b n g) g) = some 1 := by
  rcases m_isW s c hg d with ⟨_, h⟩ | ⟨h, _⟩
  · exact h
  · exact absurd e h
theorem m_isW0 (s : Sh h) (c : TM b n K G) (hg : g ≤ n) {v : UInt32} {l : List Int32} (d : Wd v l) (e : ¬ tIs b n g l) : F_X12_isWord 59 v (rfT h K G (tW b n g) g) = some 0 := by
  rcases m_isW s c hg d with ⟨h, _⟩ | ⟨_, h⟩
  · exact absurd h e
  · exact h
theorem m_pass1 (s : Sh h) (c : TM b n K G) (hp : p ≤ n) {v : UInt32} {l : List Int32} (d : Wd v l) (e : tIs b n (tS b n p) l) : F_X12_passes 59 v (rfT h K G p g) = some (1, rfT h K G (tW b n (tS b n p)) (tS b n p)) := by
  unfold F_X12_passes F_X12_passes_b0
  rw [m_letters s c hp, ob2_s, m_k, gd_d (k59 s), m_isW1 s c (tS_le hp) d e, ob_s, m_k, gd_d (k59 s), if_neg (by decide)]
theorem m_pass0 (s : Sh h) (c : TM b n K G) (hp : p ≤ n) {v : UInt32} {l : List Int32} (d : Wd v l) (e : ¬ tIs b n (tS b n p) l) : F_X12_passes 59 v (rfT h K G p g) = some (0, rfT h K G (tS b n p) (tS b n p)) := by
  unfold F_X12_passes F_X12_passes_b0
  rw [m_letters s c hp, ob2_s, m_k, gd_d (k59 s), m_isW0 s c (tS_le hp) d e, ob_s, m_k, gd_d (k59 s), if_pos rfl, m_r9, m_s7]
theorem m_need1 (s : Sh h) (c : TM b n K G) (hp : p ≤ n) {v : UInt32} {l : List Int32} (d : Wd v l) (e : tIs b n (tS b n p) l) : F_X12_needs 59 v (rfT h K G p g) = some (1, rfT h K G (tW b n (tS b n p)) (tS b n p)) := by
  unfold F_X12_needs F_X12_needs_b0
  rw [m_letters s c hp, ob2_s, m_k, gd_d (k59 s), m_isW1 s c (tS_le hp) d e, ob_s, m_k, gd_d (k59 s), gd_d (Or.inr rfl)]
theorem m_need0 (s : Sh h) (c : TM b n K G) (hp : p ≤ n) {v : UInt32} {l : List Int32} (d : Wd v l) (e : ¬ tIs b n (tS b n p) l) : F_X12_needs 59 v (rfT h K G p g) = some (0, rfT h K G (tW b n (tS b n p)) (tS b n p)) := by
  unfold F_X12_needs F_X12_needs_b0
  rw [m_letters s c hp, ob2_s, m_k, gd_d (k59 s), m_isW0 s c (tS_le hp) d e, ob_s, m_k, gd_d (k59 s), gd_d (Or.inl rfl)]
theorem eq_n {v c : Int32} : v = c ↔ ¬ v < c ∧ ¬ c < v := by
  rw [Int32.not_lt, Int32.not_lt]
  constructor
  · rintro rfl
    exact ⟨Int32.le_refl _, Int32.le_refl _⟩
  · rintro ⟨h1, h2⟩
    exact Int32.le_antisymm h2 h1
theorem m_sign1 (s : Sh h) (c : TM b n K G) (hp : p ≤ n) {v : Int32} (e : tS b n p < n ∧ b (tS b n p) = v) : F_X12_sign 59 v (rfT h K G p g) = some (1, rfT h K G (tS b n p + 1) (tS b n p)) := by
  have q := eq_n.mp e.2
  unfold F_X12_sign F_X12_sign_b0
  rw [m_blanks s c hp, ob2_s, m_k, gd_d (k59 s), m_at1 s c e.1 q.1 q.2, ob_s, m_k, gd_d (k59 s), if_neg (by decide), m_r7, nl_1, nadd, m_s7]
theorem m_sign0 (s : Sh h) (c : TM b n K G) (hp : p ≤ n) {v : Int32} (e : ¬ (tS b n p < n ∧ b (tS b n p) = v)) : F_X12_sign 59 v (rfT h K G p g) = some (0, rfT h K G (tS b n p) (tS b n p)) := by
  unfold F_X12_sign F_X12_sign_b0
  rw [m_blanks s c hp, ob2_s, m_k, gd_d (k59 s), m_at0 s c (tS_le hp) (fun x => e ⟨x.1, eq_n.mpr x.2⟩), ob_s, m_k, gd_d (k59 s), if_pos rfl]
theorem m_num_l (s : Sh h) (c : TM b n K G) (hg : g ≤ n) (lo hi : Int32) : iter (fun z : Int32 × Hp => F_X12_number_l6 59 lo hi z.1 z.2) FU ((0 : Int32), rfT h K G g g) = some (nI (tV b g (min (tD b n g - g) 5)), rfT h K G (tD b n g) g) := by
  have hn := c.1
  have hd : tD b n g ≤ n := tTo_le isDi b hg
  have gd' : g ≤ tD b n g := tTo_ge isDi b n g
  refine iter_at (fun j => (nI (tV b g (min j 5)), rfT h K G (g + j) g)) (tD b n g - g) _ rfl (fun j hj => ?_) ?_ (FU_lt (by omega))
  · have hdj : isDi (b (g + j)) = true := tTo_in isDi b n g (g + j) (by omega) (by show g + j < tD b n g; omega)
    have q := di_t.mp hdj
    show F_X12_number_l6 59 lo hi (nI (tV b g (min j 5))) (rfT h K G (g + j) g) = _
    unfold F_X12_number_l6
    rw [m_at1 s c (by omega) q.1 q.2, ob_s, m_k, gd_d (k59 s), if_neg (by decide), m_r7, m_r9, nsub (by omega), show g + j - g = j by omega, nl_5]
    unfold F_X12_number_b51
    by_cases x : 5 ≤ j
    · rw [if_pos (nI_le x (by omega)), m_k, gd_d (k59 s), m_r7, nl_1, nadd, m_s7, Nat.min_eq_right x, Nat.min_eq_right (by omega)]
      rfl
    · have rR : zR (rfT h K G (g + j) g) 59 5 = some 63 := r59_5 s
      have r3 : zI (rfT h K G (g + j) g) 63 (g + j) = b (g + j) := by
        unfold rfT
        rw [rfS_a _ (by decide), c.2.2 _ (by omega)]
      have rk : kd (rfT h K G (g + j) g) 63 = 12 := k63 s
      have rl : zl (rfT h K G (g + j) g) 63 = 400 := l63 s
      rw [if_neg (nI_ge (by omega) (by omega)), rR, ob_s, gd_d rk, rl, ix_t (by omega) (by omega), gd_t, ncl (by omega), r3, m_k, gd_d (k59 s), m_r7, Nat.min_eq_left (show j ≤ 5 by omega), tV_step hdj, Nat.min_eq_left (show j + 1 ≤ 5 by omega), nl_1, nadd, m_s7]
      rfl
  · show F_X12_number_l6 59 lo hi (nI (tV b g (min (tD b n g - g) 5))) (rfT h K G (g + (tD b n g - g)) g) = _
    rw [show g + (tD b n g - g) = tD b n g by omega]
    unfold F_X12_number_l6
    rw [m_at0 s c hd (fun x => by have y : isDi (b (tD b n g)) = false := tTo_out isDi b hg x.1; rw [di_t.mpr x.2] at y; cases y), ob_s, m_k, gd_d (k59 s), if_pos rfl]
theorem m_num1 (s : Sh h) (c : TM b n K G) (hp : p ≤ n) {lo hi : Int32} (e : tOk b n (tS b n p) lo hi) : F_X12_number 59 lo hi (rfT h K G p g) = some (nI (tVl b n (tS b n p)), rfT h K G (tD b n (tS b n p)) (tS b n p)) := by
  have hn := c.1
  have hs := tS_le (b := b) hp
  have hd : tD b n (tS b n p) ≤ n := tTo_le isDi b hs
  obtain ⟨e1, e5, e6, e7⟩ := e
  unfold F_X12_number F_X12_number_b0
  rw [m_blanks s c hp, ob2_s, m_k, gd_d (k59 s), m_num_l s c hs, ob_s]
  show gd (decide (kd (rfT h K G (tD b n (tS b n p)) (tS b n p)) 59 = 11)) _ = _
  rw [m_k, gd_d (k59 s), m_r7, m_r9, if_neg (fun x => by have := (nI_eq (by omega) (by omega)).mp x; omega), nsub (by omega), nl_5, if_neg (nI_nlt (by omega) (by omega)), Nat.min_eq_left (by omega)]
  show (if nI (tVl b n (tS b n p)) < lo then _ else _) = _
  rw [if_neg e6]
  show (if nI (tVl b n (tS b n p)) ≤ hi then _ else _) = _
  rw [if_pos e7]
  rfl
theorem m_num0 (s : Sh h) (c : TM b n K G) (hp : p ≤ n) {lo hi : Int32} (e : ¬ tOk b n (tS b n p) lo hi) : F_X12_number 59 lo hi (rfT h K G p g) = some (-1, rfT h K G (tD b n (tS b n p)) (tS b n p)) := by
  have hn := c.1
  have hs := tS_le (b := b) hp
  have hd : tD b n (tS b n p) ≤ n := tTo_le isDi b hs
  have gd' : tS b n p ≤ tD b n (tS b n p) := tTo_ge isDi b n _
  unfold F_X12_number F_X12_number_b0
  rw [m_blanks s c hp, ob2_s, m_k, gd_d (k59 s), m_num_l s c hs, ob_s]
  show gd (decide (kd (rfT h K G (tD b n (tS b n p)) (tS b n p)) 59 = 11)) _ = _
  rw [m_k, gd_d (k59 s), m_r7, m_r9]
  by_cases e1 : tS b n p < tD b n (tS b n p)
  · rw [if_neg (fun x => by have := (nI_eq (by omega) (by omega)).mp x; omega), nsub (by omega), nl_5]
    by_cases e5 : tD b n (tS b n p) ≤ tS b n p + 5
    · rw [if_neg (nI_nlt (by omega) (by omega)), Nat.min_eq_left (by omega)]
      show (if nI (tVl b n (tS b n p)) < lo then _ else _) = _
      by_cases e6 : nI (tVl b n (tS b n p)) < lo
      · rw [if_pos e6]
        rfl
      · rw [if_neg e6]
        show (if nI (tVl b n (tS b n p)) ≤ hi then _ else _) = _
        by_cases e7 : nI (tVl b n (tS b n p)) ≤ hi
        · exact absurd ⟨e1, e5, e6, e7⟩ e
        · rw [if_neg e7]
          rfl
    · rw [if_pos (nI_lt (by omega) (by omega))]
      rfl
  · rw [if_pos (by congr 1; omega)]
    rfl
end RSCAN
