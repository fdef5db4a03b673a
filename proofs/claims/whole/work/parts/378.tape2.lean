/-! TEXTS: what the class asks its tape -/
section TAPE2
variable {h : Hp} {b : Nat → Int32} {n : Nat} {J : Nat → Nat → Int32} {F : Nat → Int32} {q : Nat} {t w : Int32}
theorem tF_1 : tF b n F q t w 1 = F 1 := rfl
theorem tF_2 : tF b n F q t w 2 = nI (tK b n q) := rfl
theorem tF_3 : tF b n F q t w 3 = nI q := rfl
theorem tF_4 : tF b n F q t w 4 = nI (tE b n q) := rfl
theorem tF_5 : tF b n F q t w 5 = t := rfl
theorem tF_6 : tF b n F q t w 6 = w := rfl
theorem tF_s5 (v : Int32) : va_up (tF b n F q t w) 5 v = tF b n F q v w := by
  funext k
  rw [va_2]
  unfold tF
  by_cases e : k = 5
  · subst e
    rfl
  · rw [if_neg e, if_neg e, if_neg e]
theorem tF_s6 (v : Int32) : va_up (tF b n F q t w) 6 v = tF b n F q t v := by
  funext k
  rw [va_2]
  unfold tF
  by_cases e : k = 6
  · subst e
    rfl
  · rw [if_neg e, if_neg e, if_neg e]
theorem tF_tF (q2 : Nat) (t2 w2 : Int32) : tF b n (tF b n F q t w) q2 t2 w2 = tF b n F q2 t2 w2 := by
  funext k
  by_cases e2 : k = 2
  · subst e2; rfl
  · by_cases e3 : k = 3
    · subst e3; rfl
    · by_cases e4 : k = 4
      · subst e4; rfl
      · by_cases e5 : k = 5
        · subst e5; rfl
        · by_cases e6 : k = 6
          · subst e6; rfl
          · unfold tF
            simp only [if_neg e2, if_neg e3, if_neg e4, if_neg e5, if_neg e6]
/-- the class looks at the thing q -/
def cT (h : Hp) (b : Nat → Int32) (n : Nat) (J : Nat → Nat → Int32) (F : Nat → Int32) (q : Nat) (t w : Int32) : Hp := cS h J (tF b n F q t w)
theorem TC_F (c : TC b n J F) : TC b n J (tF b n F q t w) := c
theorem x_nxt (s : Sh h) (c : TC b n J F) (hq : q ≤ n) : F_X6_lookAtNext 1 (cT h b n J F q t w) = some ((), cT h b n J F (tN b n q) t w) := by
  have e := c_next s (TC_F (q := q) (t := t) (w := w) c) (tE_le hq) tF_4
  rw [tF_tF] at e
  exact e
theorem x_refuse (s : Sh h) : F_X6_refuse 1 (cT h b n J F q t w) = some (0, cT h b n J F q t (nI q)) := by
  unfold F_X6_refuse F_X6_refuse_b0 cT
  rw [cS_k, gd_d (k1 s), cS_1, cS_set, tF_s6]
  rfl
theorem tK_lt : tK b n q < 4 := by
  unfold tK
  by_cases c1 : q < tW b n q
  · rw [if_pos c1]; omega
  · rw [if_neg c1]
    by_cases c2 : q < tD b n q
    · rw [if_pos c2]; omega
    · rw [if_neg c2]
      by_cases c3 : q < n
      · rw [if_pos c3]; omega
      · rw [if_neg c3]; omega
theorem nK0 : nI (tK b n q) = (0 : Int32) ↔ tK b n q = 0 := nI_eq (b := 0) (by have := tK_lt (b := b) (n := n) (q := q); omega) (by omega)
theorem nK1 : nI (tK b n q) = (1 : Int32) ↔ tK b n q = 1 := nI_eq (b := 1) (by have := tK_lt (b := b) (n := n) (q := q); omega) (by omega)
theorem nK2 : nI (tK b n q) = (2 : Int32) ↔ tK b n q = 2 := nI_eq (b := 2) (by have := tK_lt (b := b) (n := n) (q := q); omega) (by omega)
theorem nK3 : nI (tK b n q) = (3 : Int32) ↔ tK b n q = 3 := nI_eq (b := 3) (by have := tK_lt (b := b) (n := n) (q := q); omega) (by omega)
theorem x_more (s : Sh h) (hq : q ≤ n) (hn : n ≤ 400) : F_X6_hasMore 1 (cT h b n J F q t w) = some (if q = n then 0 else 1) := by
  have e0 := tK_0 (b := b) hq
  unfold F_X6_hasMore F_X6_hasMore_b0 cT
  rw [cS_k, gd_d (k1 s), cS_1, tF_2]
  by_cases e : q = n
  · rw [if_pos (nK0.mpr (e0.mpr e)), if_pos e]
    rfl
  · rw [if_neg (fun q1 => e (e0.mp (nK0.mp q1))), if_neg e]
    rfl
/-- neither a letter nor a digit -/
def sgn (c : Int32) : Prop := isLe c = false ∧ isDi c = false
theorem x_isS1 (s : Sh h) (c : TC b n J F) {g : Int32} (hg : sgn g) (hq : q ≤ n) (e : q < n ∧ b q = g) : F_X6_isSign 1 g (cT h b n J F q t w) = some 1 := by
  have hn := c.1
  unfold F_X6_isSign F_X6_isSign_b0 cT
  rw [cS_k, gd_d (k1 s), cS_1, tF_2, if_pos (nK3.mpr ((tK_3 hq hg.1 hg.2).mpr e).1), cS_R, r1_0 s, ob_s, cS_k, gd_d (k2 s), cS_1, tF_3, cS_l, l2 s, ix_t (by omega) (by omega), gd_t, ncl (by omega), cS_2, c.2.2 _ (by omega), if_pos e.2]
  rfl
theorem x_isS0 (s : Sh h) (c : TC b n J F) {g : Int32} (hg : sgn g) (hq : q ≤ n) (e : ¬ (q < n ∧ b q = g)) : F_X6_isSign 1 g (cT h b n J F q t w) = some 0 := by
  have hn := c.1
  unfold F_X6_isSign F_X6_isSign_b0 cT
  rw [cS_k, gd_d (k1 s), cS_1, tF_2]
  by_cases k3 : tK b n q = 3
  · have hl : q < n := by
      by_cases x : q = n
      · have := (tK_0 (b := b) hq).mpr x
        omega
      · omega
    rw [if_pos (nK3.mpr k3), cS_R, r1_0 s, ob_s, cS_k, gd_d (k2 s), cS_1, tF_3, cS_l, l2 s, ix_t (by omega) (by omega), gd_t, ncl (by omega), cS_2, c.2.2 _ (by omega), if_neg (fun x => e ((tK_3 hq hg.1 hg.2).mp ⟨k3, x⟩))]
    rfl
  · rw [if_neg (fun x => k3 (nK3.mp x))]
    rfl
theorem x_takeS1 (s : Sh h) (c : TC b n J F) {g : Int32} (hg : sgn g) (hq : q ≤ n) (e : q < n ∧ b q = g) : F_X6_takeSign 1 g (cT h b n J F q t w) = some (1, cT h b n J F (tN b n q) t w) := by
  unfold F_X6_takeSign F_X6_takeSign_b0
  rw [x_isS1 s c hg hq e, ob_s]
  show gd (decide (kd h 1 = 6)) _ = _
  rw [gd_d (k1 s), if_neg (by decide), x_nxt s c hq, ob2_s]
theorem x_takeS0 (s : Sh h) (c : TC b n J F) {g : Int32} (hg : sgn g) (hq : q ≤ n) (e : ¬ (q < n ∧ b q = g)) : F_X6_takeSign 1 g (cT h b n J F q t w) = some (0, cT h b n J F q t (nI q)) := by
  unfold F_X6_takeSign F_X6_takeSign_b0
  rw [x_isS0 s c hg hq e, ob_s]
  show gd (decide (kd h 1 = 6)) _ = _
  rw [gd_d (k1 s), if_pos rfl, x_refuse s, ob2_s, gd_d (Or.inl rfl)]
/-- the word v is s -/
def Wd (v : UInt32) (l : List Int32) : Prop := v.toNat < 64 ∧ sB.getD v.toNat [] = l ∧ 0 < l.length ∧ l.length < 20
theorem Wd_len {v : UInt32} {l : List Int32} (d : Wd v l) : slen v = nI l.length := by
  unfold slen
  rw [d.2.1]
  rfl
theorem Wd_ch {v : UInt32} {l : List Int32} (d : Wd v l) {i : Nat} (hi : i < l.length) : schar v (nI i) = l.getD i 0 := by
  have := d.2.2.2
  unfold schar
  rw [d.2.1, ncl (by omega)]
theorem x_isW_l (s : Sh h) (c : TC b n J F) (hq : q ≤ n) {v : UInt32} {l : List Int32} (d : Wd v l) (hl : q + l.length ≤ n) : ∃ z, iter (fun z : Int32 => F_X6_isWord_l28 1 v z (cT h b n J F q t w)) FU (0 : Int32) = some z ∧ ((z = .inl () ∧ ∀ i, i < l.length → b (q + i) = l.getD i 0) ∨ (z = .inr () ∧ ∃ i, i < l.length ∧ b (q + i) ≠ l.getD i 0)) := by
  have hn := c.1
  have l20 := d.2.2.2
  refine iter_ex (body := fun z : Int32 => F_X6_isWord_l28 1 v z (cT h b n J F q t w)) (fun u z => ∃ i, z = nI i ∧ i + u = l.length ∧ ∀ k, k < i → b (q + k) = l.getD k 0) (fun z : Unit ⊕ Unit => (z = .inl () ∧ ∀ i, i < l.length → b (q + i) = l.getD i 0) ∨ (z = .inr () ∧ ∃ i, i < l.length ∧ b (q + i) ≠ l.getD i 0)) (fun u z hI => ?_) FU l.length 0 (FU_lt (by omega)) ⟨0, rfl, by omega, fun k hk => absurd hk (by omega)⟩
  obtain ⟨i, rfl, e, a⟩ := hI
  show (∃ x, F_X6_isWord_l28 1 v (nI i) (cT h b n J F q t w) = some (.inr x) ∧ _) ∨ _
  by_cases x : i = l.length
  · left
    refine ⟨.inl (), ?_, Or.inl ⟨rfl, fun k hk => a k (by omega)⟩⟩
    unfold F_X6_isWord_l28
    rw [gd_d d.1, Wd_len d, if_pos (nI_le (by omega) (by omega))]
  · by_cases y : b (q + i) = l.getD i 0
    · right
      refine ⟨nI (i + 1), u - 1, by omega, ?_, i + 1, rfl, by omega, fun k hk => ?_⟩
      · show F_X6_isWord_l28 1 v (nI i) (cS h J (tF b n F q t w)) = _
        unfold F_X6_isWord_l28
        rw [gd_d d.1, Wd_len d, if_neg (nI_ge (by omega) (by omega)), cS_k, gd_d (k1 s), cS_R, r1_0 s, ob_s, cS_k, gd_d (k2 s), cS_1, tF_3, nadd, cS_l, l2 s, ix_t (by omega) (by omega), gd_t, gd_d d.1, d.2.1, ix_t (by omega) (by omega), gd_t, ncl (by omega), cS_2, c.2.2 _ (by omega), Wd_ch d (by omega), if_pos y, nl_1, nadd]
      · by_cases z : k = i
        · rw [z]
          exact y
        · exact a k (by omega)
    · left
      refine ⟨.inr (), ?_, Or.inr ⟨rfl, i, by omega, y⟩⟩
      show F_X6_isWord_l28 1 v (nI i) (cS h J (tF b n F q t w)) = _
      unfold F_X6_isWord_l28
      rw [gd_d d.1, Wd_len d, if_neg (nI_ge (by omega) (by omega)), cS_k, gd_d (k1 s), cS_R, r1_0 s, ob_s, cS_k, gd_d (k2 s), cS_1, tF_3, nadd, cS_l, l2 s, ix_t (by omega) (by omega), gd_t, gd_d d.1, d.2.1, ix_t (by omega) (by omega), gd_t, ncl (by omega), cS_2, c.2.2 _ (by omega), Wd_ch d (by omega), if_neg y]
theorem x_isW (s : Sh h) (c : TC b n J F) (hq : q ≤ n) {v : UInt32} {l : List Int32} (d : Wd v l) : (tIs b n q l ∧ F_X6_isWord 1 v (cT h b n J F q t w) = some 1) ∨ (¬ tIs b n q l ∧ F_X6_isWord 1 v (cT h b n J F q t w) = some 0) := by
  have hn := c.1
  have l20 := d.2.2.2
  have l0 := d.2.2.1
  have hw : tW b n q ≤ n := tTo_le isLe b hq
  have ek : kd (cT h b n J F q t w) 1 = 6 := k1 s
  have e2 : zI (cT h b n J F q t w) 1 2 = nI (tK b n q) := cS_1 2
  have e3 : zI (cT h b n J F q t w) 1 3 = nI q := cS_1 3
  have e4 : zI (cT h b n J F q t w) 1 4 = nI (tE b n q) := cS_1 4
  unfold F_X6_isWord F_X6_isWord_b0
  rw [gd_d ek, e2]
  by_cases k1' : q < tW b n q
  · rw [if_pos (nK1.mpr (tK_1.mpr k1')), gd_d d.1, e3, e4, tE_1 k1', nsub (by omega), Wd_len d]
    by_cases x : tW b n q = q + l.length
    · rw [if_pos (by rw [x]; congr 1; omega)]
      obtain ⟨z, z1, z2⟩ := x_isW_l (t := t) (w := w) s c hq d (by omega)
      rw [z1, ob_s]
      rcases z2 with ⟨rfl, z2⟩ | ⟨rfl, i, z2, z3⟩
      · exact Or.inl ⟨⟨x, z2⟩, rfl⟩
      · exact Or.inr ⟨fun y => z3 (y.2 i z2), rfl⟩
    · refine Or.inr ⟨fun y => x y.1, ?_⟩
      rw [if_neg (fun y => x (by have := (nI_eq (by omega) (by omega)).mp y; omega))]
      rfl
  · refine Or.inr ⟨fun y => by have := y.1; omega, ?_⟩
    rw [if_neg (fun x => k1' (tK_1.mp (nK1.mp x)))]
    rfl
theorem x_isW1 (s : Sh h) (c : TC b n J F) (hq : q ≤ n) {v : UInt32} {l : List Int32} (d : Wd v l) (e : tIs b n q l) : F_X6_isWord 1 v (cT h b n J F q t w) = some 1 := by
  rcases x_isW (t := t) (w := w) s c hq d with ⟨_, h⟩ | ⟨h, _⟩
  · exact h
  · exact absurd e h
theorem x_isW0 (s : Sh h) (c : TC b n J F) (hq : q ≤ n) {v : UInt32} {l : List Int32} (d : Wd v l) (e : ¬ tIs b n q l) : F_X6_isWord 1 v (cT h b n J F q t w) = some 0 := by
  rcases x_isW (t := t) (w := w) s c hq d with ⟨h, _⟩ | ⟨_, h⟩
  · exact absurd h e
  · exact h
theorem x_takeW1 (s : Sh h) (c : TC b n J F) (hq : q ≤ n) {v : UInt32} {l : List Int32} (d : Wd v l) (e : tIs b n q l) : F_X6_takeWord 1 v (cT h b n J F q t w) = some (1, cT h b n J F (tN b n q) t w) := by
  unfold F_X6_takeWord F_X6_takeWord_b0
  rw [x_isW1 s c hq d e, ob_s]
  show gd (decide (kd h 1 = 6)) _ = _
  rw [gd_d (k1 s), if_neg (by decide), x_nxt s c hq, ob2_s]
theorem x_takeW0 (s : Sh h) (c : TC b n J F) (hq : q ≤ n) {v : UInt32} {l : List Int32} (d : Wd v l) (e : ¬ tIs b n q l) : F_X6_takeWord 1 v (cT h b n J F q t w) = some (0, cT h b n J F q t (nI q)) := by
  unfold F_X6_takeWord F_X6_takeWord_b0
  rw [x_isW0 s c hq d e, ob_s]
  show gd (decide (kd h 1 = 6)) _ = _
  rw [gd_d (k1 s), if_pos rfl, x_refuse s, ob2_s, gd_d (Or.inl rfl)]
/-- the number at q -/
def tVl (b : Nat → Int32) (n q : Nat) : Nat := tV b q (tD b n q - q)
def tOk (b : Nat → Int32) (n q : Nat) (lo hi : Int32) : Prop := q < tD b n q ∧ tD b n q ≤ q + 5 ∧ ¬ nI (tVl b n q) < lo ∧ nI (tVl b n q) ≤ hi
theorem tV_lt {j : Nat} (hd : ∀ k, k < j → isDi (b (q + k)) = true) : tV b q j < 10 ^ j := by
  induction j with
  | zero => exact Nat.lt_succ_self 0
  | succ j ih =>
    obtain ⟨d, d1, _, d3⟩ := di_v (hd j (by omega))
    have := ih (fun k hk => hd k (by omega))
    show 10 * tV b q j + ((b (q + j)).toInt.toNat - 48) < 10 ^ (j + 1)
    rw [d3, Nat.pow_succ]
    omega
theorem tV_step {j : Nat} (hd : isDi (b (q + j)) = true) : (10 : Int32) * nI (tV b q j) + b (q + j) - 48 = nI (tV b q (j + 1)) := by
  obtain ⟨d, d1, d2, d3⟩ := di_v hd
  rw [d2, nl_10, nmul, nadd, nl_48, nsub (by omega)]
  show _ = nI (10 * tV b q j + ((b (q + j)).toInt.toNat - 48))
  rw [d3]
  congr 1
  omega
theorem p5 {j : Nat} (h : j ≤ 5) : 10 ^ j ≤ 100000 := Nat.pow_le_pow_right (by omega) h
theorem x_num_l (s : Sh h) (c : TC b n J F) (hq : q ≤ n) (lo hi : Int32) (e : q < tD b n q) : iter (fun z : Int32 × Int32 => F_X6_takeNumber_l34 1 lo hi z.1 z.2 (cT h b n J F q t w)) FU ((0 : Int32), nI q) = some (nI (tVl b n q)) := by
  have hn := c.1
  have hd : tD b n q ≤ n := tTo_le isDi b hq
  have ek : kd (cT h b n J F q t w) 1 = 6 := k1 s
  have e4 : zI (cT h b n J F q t w) 1 4 = nI (tE b n q) := cS_1 4
  rw [tE_2 hq e] at e4
  refine iter_at (fun j => (nI (tV b q j), nI (q + j))) (tD b n q - q) (nI (tVl b n q)) rfl (fun j hj => ?_) ?_ (FU_lt (by omega))
  · show F_X6_takeNumber_l34 1 lo hi (nI (tV b q j)) (nI (q + j)) (cT h b n J F q t w) = _
    unfold F_X6_takeNumber_l34
    rw [gd_d ek, e4, if_neg (nI_ge (by omega) (by omega))]
    unfold cT
    rw [cS_R, r1_0 s, ob_s, cS_k, gd_d (k2 s), cS_l, l2 s, ix_t (by omega) (by omega), gd_t, ncl (by omega), cS_2, c.2.2 _ (by omega), tV_step (tTo_in isDi b n q (q + j) (by omega) (by show q + j < tD b n q; omega)), nl_1, nadd]
    rfl
  · show F_X6_takeNumber_l34 1 lo hi (nI (tV b q (tD b n q - q))) (nI (q + (tD b n q - q))) (cT h b n J F q t w) = _
    unfold F_X6_takeNumber_l34
    rw [gd_d ek, e4, if_pos (nI_le (by omega) (by omega))]
    rfl
theorem x_tN1 (s : Sh h) (c : TC b n J F) (hq : q ≤ n) {lo hi : Int32} (e : tOk b n q lo hi) : F_X6_takeNumber 1 lo hi (cT h b n J F q t w) = some (1, cT h b n J F (tN b n q) (nI (tVl b n q)) w) := by
  have hn := c.1
  have hd : tD b n q ≤ n := tTo_le isDi b hq
  obtain ⟨e1, e5, e6, e7⟩ := e
  have ek : kd (cT h b n J F q t w) 1 = 6 := k1 s
  have e2 : zI (cT h b n J F q t w) 1 2 = nI (tK b n q) := cS_1 2
  have e3 : zI (cT h b n J F q t w) 1 3 = nI q := cS_1 3
  have e4 : zI (cT h b n J F q t w) 1 4 = nI (tE b n q) := cS_1 4
  have es : setI (cT h b n J F q t w) 1 5 (nI (tVl b n q)) = cT h b n J F q (nI (tVl b n q)) w := by
    unfold cT
    rw [cS_set, tF_s5]
  unfold F_X6_takeNumber F_X6_takeNumber_b0
  rw [gd_d ek, e2, if_pos (nK2.mpr ((tK_2 hq).mpr e1)), e3, e4, tE_2 hq e1, nsub (by omega), nl_5, if_pos (nI_le (by omega) (by omega)), x_num_l s c hq lo hi e1, ob_s, if_neg e6, if_pos e7, es, x_nxt s c hq, ob2_s]
theorem x_tN0 (s : Sh h) (c : TC b n J F) (hq : q ≤ n) {lo hi : Int32} (e : ¬ tOk b n q lo hi) : F_X6_takeNumber 1 lo hi (cT h b n J F q t w) = some (0, cT h b n J F q t (nI q)) := by
  have hn := c.1
  have hd : tD b n q ≤ n := tTo_le isDi b hq
  have ek : kd (cT h b n J F q t w) 1 = 6 := k1 s
  have e2 : zI (cT h b n J F q t w) 1 2 = nI (tK b n q) := cS_1 2
  have e3 : zI (cT h b n J F q t w) 1 3 = nI q := cS_1 3
  have e4 : zI (cT h b n J F q t w) 1 4 = nI (tE b n q) := cS_1 4
  have r1 : F_X6_takeNumber_b21 1 (cT h b n J F q t w) = some (0, cT h b n J F q t (nI q)) := by
    unfold F_X6_takeNumber_b21
    rw [x_refuse s, ob2_s, gd_d ek, gd_d (Or.inl rfl)]
  have r2 : F_X6_takeNumber_b75 1 (cT h b n J F q t w) = some (0, cT h b n J F q t (nI q)) := by
    unfold F_X6_takeNumber_b75
    rw [x_refuse s, ob2_s, gd_d ek, gd_d (Or.inl rfl)]
  unfold F_X6_takeNumber F_X6_takeNumber_b0
  rw [gd_d ek, e2]
  by_cases e1 : q < tD b n q
  · rw [if_pos (nK2.mpr ((tK_2 hq).mpr e1)), e3, e4, tE_2 hq e1, nsub (by omega), nl_5]
    by_cases e5 : tD b n q ≤ q + 5
    · rw [if_pos (nI_le (by omega) (by omega)), x_num_l s c hq lo hi e1, ob_s]
      by_cases e6 : nI (tVl b n q) < lo
      · rw [if_pos e6]
        exact r2
      · rw [if_neg e6]
        by_cases e7 : nI (tVl b n q) ≤ hi
        · exact absurd ⟨e1, e5, e6, e7⟩ e
        · rw [if_neg e7]
          exact r2
    · rw [if_neg (nI_ge (by omega) (by omega))]
      exact r1
  · rw [if_neg (fun x => e1 ((tK_2 hq).mp (nK2.mp x)))]
    exact r1
theorem x_first (s : Sh h) (c : TC b n J F) : F_X6_lookAtFirst 1 (cS h J F) = some ((), cT h b n J F (tS b n 0) (F 5) (-1)) := by
  unfold F_X6_lookAtFirst F_X6_lookAtFirst_b0
  rw [cS_k, gd_d (k1 s), cS_set, cS_set, c_next s (F := va_up (va_up F 6 (-1)) 4 0) (p := 0) ⟨c.1, by rw [va_o _ _ (by decide), va_o _ _ (by decide)]; exact c.2.1, c.2.2⟩ (by omega) (va_e _ _ _), ob2_s]
  unfold cT
  congr 3
  funext k
  by_cases e2 : k = 2
  · subst e2; rfl
  · by_cases e3 : k = 3
    · subst e3; rfl
    · by_cases e4 : k = 4
      · subst e4; rfl
      · by_cases e5 : k = 5
        · subst e5; rfl
        · by_cases e6 : k = 6
          · subst e6; rfl
          · unfold tF
            simp only [if_neg e2, if_neg e3, if_neg e4, if_neg e5, if_neg e6, va_2]
end TAPE2
