/-! TEXTS: a line of the book, both sides -/
section BOOKL
variable {h : Hp} {b : Nat → Int32} {n : Nat} {F : Nat → Int32}
theorem wd_at : Wd 0 [97, 116] := by unfold Wd; decide
theorem wd_at2 : Wd 63 [97, 116] := by unfold Wd; decide
theorem wd_to : Wd 1 [116, 111] := by unfold Wd; decide
theorem wd_to2 : Wd 46 [116, 111] := by unfold Wd; decide
theorem tVl_lt {q : Nat} (h : q ≤ n) (h5 : tD b n q ≤ q + 5) : tVl b n q < 100000 := by
  have g : q ≤ tD b n q := tTo_ge isDi b n q
  have := tV_lt (b := b) (q := q) (j := tD b n q - q) (fun k hk => tTo_in isDi b n q (q + k) (by omega) (by show q + k < tD b n q; omega))
  have := p5 (j := tD b n q - q) (by omega)
  unfold tVl
  omega
/-- a number that is one of m things -/
theorem tOk_lt {q m : Nat} (h : q ≤ n) (hm : m < 2147483648) (e : tOk b n q 0 (nI m - 1)) : tVl b n q < m := by
  have hv := tVl_lt h e.2.1
  have e3 := e.2.2.2
  by_cases q0 : m = 0
  · subst q0
    exfalso
    have x := Int32.le_iff_toInt_le.mp e3
    rw [nI_toInt (by omega)] at x
    have c : (nI 0 - 1).toInt = -1 := rfl
    omega
  · rw [nl_1, nsub (by omega)] at e3
    by_cases y : tVl b n q < m
    · exact y
    · exact absurd e3 (nI_ge (by omega) (by omega))
theorem tOk_le {q m : Nat} {lo : Int32} (h : q ≤ n) (e : tOk b n q lo (nI m)) : tVl b n q ≤ m := by
  have hv := tVl_lt h e.2.1
  by_cases y : tVl b n q ≤ m
  · exact y
  · exact absurd e.2.2.2 (nI_ge (by omega) (by omega))
theorem tN_d {q : Nat} (hq : q ≤ n) (e : q < tD b n q) : tS b n (tD b n q) = tN b n q := by
  unfold tN
  rw [tE_2 hq e]
theorem tN_w {q : Nat} (e : q < tW b n q) : tS b n (tW b n q) = tN b n q := by
  unfold tN
  rw [tE_1 e]
theorem tIs_lt {q : Nat} {l : List Int32} (hl : 0 < l.length) (e : tIs b n q l) : q < tW b n q := by
  have := e.1
  omega
/-- the book's lines so far, and nothing else -/
def RB (h : Hp) (b : Nat → Int32) (n : Nat) (F : Nat → Int32) (J0 K0 : Nat → Nat → Int32) (G0 : Nat → Int32) (i : Nat) (J K : Nat → Nat → Int32) (G : Nat → Int32) : Prop :=
  TC b n J F ∧ TM b n K G ∧ J 41 0 = nI i ∧ G = G0 ∧ (∀ a, (a < 41 ∨ 44 < a) → J a = J0 a) ∧ (∀ a, a ≠ 65 → K a = K0 a) ∧
  ∀ j, j < i → (∃ m, m < 1000 ∧ J 42 j = nI m ∧ K 65 (3 * j) = nI m) ∧ (∃ g, g < nG (K0 60) ∧ J 43 j = nI g ∧ K 65 (3 * j + 1) = nI g) ∧ (∃ r, r < nR (K0 60) ∧ J 44 j = nI r ∧ K 65 (3 * j + 2) = nI r)
def RBF (J0 K0 : Nat → Nat → Int32) (G0 : Nat → Int32) (J K : Nat → Nat → Int32) (G : Nat → Int32) : Prop := G = G0 ∧ (∀ a, (a < 41 ∨ 44 < a) → J a = J0 a) ∧ (∀ a, a ≠ 65 → K a = K0 a)
theorem k41 (s : Sh h) : kd h 41 = 0 ∧ zR h 41 1 = some 42 ∧ zR h 41 2 = some 43 ∧ zR h 41 3 = some 44 ∧ kd h 42 = 13 ∧ zl h 42 = 20 ∧ kd h 43 = 13 ∧ zl h 43 = 20 ∧ kd h 44 = 13 ∧ zl h 44 = 20 := by unfold Sh at s; simp only [s, and_self]
theorem k65 (s : Sh h) : zR h 59 14 = some 65 ∧ kd h 65 = 13 ∧ zl h 65 = 60 := by unfold Sh at s; simp only [s, and_self]
/-- the earliest minute -/
def eaC (J : Nat → Nat → Int32) (i : Nat) : Int32 := if i = 0 then 0 else J 42 (i - 1)
def eaM (K : Nat → Nat → Int32) (i : Nat) : Int32 := if i = 0 then 0 else K 65 (3 * i - 3)
theorem cT_l {J : Nat → Nat → Int32} {q : Nat} {t w : Int32} (a : Nat) : zl (cT h b n J F q t w) a = zl h a := rfl
theorem cT_R {J : Nat → Nat → Int32} {q : Nat} {t w : Int32} (a k : Nat) : zR (cT h b n J F q t w) a k = zR h a k := rfl
theorem cT_5 {J : Nat → Nat → Int32} {q : Nat} {t w : Int32} : zI (cT h b n J F q t w) 1 5 = t := cS_1 5
theorem m_l {K : Nat → Nat → Int32} {G : Nat → Int32} {p g : Nat} (a : Nat) : zl (rfT h K G p g) a = zl h a := rfl
theorem m_R {K : Nat → Nat → Int32} {G : Nat → Int32} {p g : Nat} (a k : Nat) : zR (rfT h K G p g) a k = zR h a k := rfl
theorem m_a {K : Nat → Nat → Int32} {G : Nat → Int32} {p g a : Nat} (k : Nat) (ha : a ≠ 59) : zI (rfT h K G p g) a k = K a k := rfS_a k ha
theorem m_seta {K : Nat → Nat → Int32} {G : Nat → Int32} {p g a : Nat} (k : Nat) (v : Int32) (ha : a ≠ 59) : setI (rfT h K G p g) a k v = rfT h (up2 K a k v) G p g := rfS_seta k v ha
theorem TM_up {K : Nat → Nat → Int32} {G : Nat → Int32} (c : TM b n K G) {a k : Nat} {v : Int32} (h2 : a ≠ 63) : TM b n (up2 K a k v) G := ⟨c.1, c.2.1, fun j hj => by rw [up2_a _ _ _ _ _ (fun e => h2 e.symm)]; exact c.2.2 j hj⟩
theorem nz0 {i : Nat} (hi : i < 2147483648) (q0 : ¬ i = 0) : ¬ nI i = (0 : Int32) := fun x => q0 ((nI_eq (b := 0) hi (by omega)).mp x)
theorem cb_head (s : Sh h) {J : Nat → Nat → Int32} {i q : Nat} {t w : Int32} (hi : i < 20) (e : J 41 0 = nI i) : F_X0_readLine 41 1 3 (cT h b n J F q t w) = F_X0_readLine_b36 41 1 3 (nI i) (eaC J i) (cT h b n J F q t w) := by
  obtain ⟨a1, a2, a3, a4, a5, a6, a7, a8, a9, a10⟩ := k41 s
  unfold F_X0_readLine F_X0_readLine_b0
  rw [cT_k, gd_d a1, cT_a _ (by decide), e, if_neg (nI_pos (by omega)), nl_20, if_pos (nI_lt hi (by omega))]
  by_cases q0 : i = 0
  · subst q0
    rfl
  · rw [if_neg (nz0 (by omega) q0), cT_R, a2, ob_s, cT_k, gd_d a5, nl_1, nsub (by omega), cT_l, a6, ix_t (by omega) (by omega), gd_t, ncl (by omega), cT_a _ (by decide)]
    unfold eaC
    rw [if_neg q0]
theorem mb_head (s : Sh h) {K : Nat → Nat → Int32} {G : Nat → Int32} {i q : Nat} (tm : TM b n K G) (hq : q ≤ n) (hi : i < 20) (e : tIs b n q [97, 116]) : F_X12_readPage 59 (nI i) (rfT h K G (tW b n q) q) = F_X12_readPage_b37 59 (nI i) 65 (nI (3 * i)) 59 (eaM K i) (rfT h K G (tW b n q) q) := by
  obtain ⟨a1, a2, a3⟩ := k65 s
  unfold F_X12_readPage F_X12_readPage_b0
  rw [m_isW1 s tm hq wd_at2 e, ob_s, m_k, gd_d (k59 s), if_neg (by decide), m_R, a1, ob_s, nl_3, nmul]
  by_cases q0 : i = 0
  · subst q0
    rfl
  · rw [if_neg (nz0 (by omega) q0), ob_s, m_k, gd_d a2, nsub (by omega), m_l, a3, ix_t (by omega) (by omega), gd_t, ncl (by omega), m_a _ (by decide)]
    unfold eaM
    rw [if_neg q0]
/-- the class, from the word on -/
theorem cb_1 (s : Sh h) {J : Nat → Nat → Int32} {i q : Nat} {t lo : Int32} (tc : TC b n J F) (hq : q ≤ n) (hi : i < 20) (e : tIs b n q [97, 116]) (e2 : tOk b n (tN b n q) lo 999) {m : Nat} (eg : J 3 5 = nI m) (e3 : tOk b n (tN b n (tN b n q)) 0 (nI m - 1)) (e4 : tIs b n (tN b n (tN b n (tN b n q))) [116, 111]) {r : Nat} (er : J 3 0 = nI r) (e5 : tOk b n (tN b n (tN b n (tN b n (tN b n q)))) 0 (nI r - 1)) : F_X0_readLine_b36 41 1 3 (nI i) lo (cT h b n J F q t (-1)) = some (1, cT h b n (up2 (up2 (up2 J 42 i (nI (tVl b n (tN b n q)))) 43 i (nI (tVl b n (tN b n (tN b n q))))) 44 i (nI (tVl b n (tN b n (tN b n (tN b n (tN b n q))))))) F (tN b n (tN b n (tN b n (tN b n (tN b n q))))) (nI (tVl b n (tN b n (tN b n (tN b n (tN b n q)))))) (-1)) := by
  obtain ⟨a1, a2, a3, a4, a5, a6, a7, a8, a9, a10⟩ := k41 s
  have h1 := tN_le (b := b) hq
  have h2 := tN_le (b := b) h1
  have h3 := tN_le (b := b) h2
  have h4 := tN_le (b := b) h3
  have t1 : TC b n (up2 J 42 i (nI (tVl b n (tN b n q)))) F := TC_up tc (by decide)
  have t2 : TC b n (up2 (up2 J 42 i (nI (tVl b n (tN b n q)))) 43 i (nI (tVl b n (tN b n (tN b n q))))) F := TC_up t1 (by decide)
  unfold F_X0_readLine_b36
  rw [x_takeW1 s tc hq wd_at e, ob2_s, cT_k, gd_d (k1 s), if_neg (by decide), x_tN1 s tc h1 e2, ob2_s, cT_k, gd_d (k1 s), if_neg (by decide), cT_k, gd_d a1, cT_R, a2, ob_s, cT_k, gd_d (k1 s), cT_k, gd_d a5, cT_l, a6, ix_t hi (by omega), gd_t, ncl (by omega), cT_5, cT_seta _ _ (by decide), cT_k, gd_d (k3 s), cT_a _ (by decide), up2_a _ _ _ _ _ (by decide), eg, x_tN1 s t1 h2 e3, ob2_s, if_neg (by decide), cT_k, gd_d a1, cT_R, a3, ob_s, cT_k, gd_d (k1 s), cT_k, gd_d a7, cT_l, a8, ix_t hi (by omega), gd_t, cT_5, cT_seta _ _ (by decide), x_takeW1 s t2 h3 wd_to e4, ob2_s, if_neg (by decide), cT_k, gd_d (k3 s), cT_a _ (by decide), up2_a _ _ _ _ _ (by decide), up2_a _ _ _ _ _ (by decide), er, x_tN1 s t2 h4 e5, ob2_s, cT_k, gd_d (k1 s), if_neg (by decide), cT_k, gd_d a1, cT_R, a4, ob_s, cT_k, gd_d (k1 s), cT_k, gd_d a9, cT_l, a10, ix_t hi (by omega), gd_t, cT_5, cT_seta _ _ (by decide)]
end BOOKL
