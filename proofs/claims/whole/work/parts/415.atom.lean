/-! WISHES: an atom, and what is deeper -/
section WATOM
variable {h : Hp} {b : Nat → Int32} {n : Nat} {F : Nat → Int32} {i d : Nat}
theorem ES_d {st p d2 : Nat} {J K : Nat → Nat → Int32} {G : Nat → Int32} (e : ES b n F i d st p J K G) : ES b n F i d2 st p J K (va_up G 10 (nI d2)) := by
  obtain ⟨e1, e2, e3, e4, e5, e6, e7⟩ := e
  exact ⟨e1, WF_TM (J := J) WF_d e2, e3, by rw [va_o _ _ (by decide)]; exact e4, va_e _ _ _, e6, e7⟩
theorem WO_p {B st p q : Nat} {ty : Bool} {J K : Nat → Nat → Int32} {G : Nat → Int32} {rc : Option (Int32 × Hp)} {rm : Hp → Option (Int32 × Hp)} (w : WO h b n F i B ty d st q J K G rc rm) (hp : p ≤ q) : WO h b n F i B ty d st p J K G rc rm := by
  rcases w with w | ⟨st', J', t', K', G', p', g', a1, a2, a3, a4⟩
  · exact Or.inl w
  · exact Or.inr ⟨st', J', t', K', G', p', g', a1, a2, a3, ⟨by have := a4.1; omega, a4.2⟩⟩
theorem nd6 (hd : d ≤ 6) : (d = 6 ∧ (6 : Int32) ≤ nI d ∧ nI d = (6 : Int32)) ∨ (d < 6 ∧ ¬ (6 : Int32) ≤ nI d ∧ ¬ nI d = (6 : Int32)) := by
  by_cases e : d = 6
  · subst e
    exact Or.inl ⟨rfl, by decide, rfl⟩
  · exact Or.inr ⟨by omega, nI_ge (b := 6) (by omega) (by omega), fun x => e ((nI_eq (b := 6) (by omega) (by omega)).mp x)⟩
theorem cod_8 (v : Int32) : cod 8 v = -16 - v := by
  unfold cod
  rw [if_neg (by decide), if_neg (by decide), if_neg (by decide), if_neg (by decide), if_neg (by decide), if_neg (by decide), if_neg (by decide), if_neg (by decide), if_pos rfl]
theorem tyS_8 {v : Nat} (hv : v ≤ 4) {stk : List Bool} (hs : stk.length ≤ 31) : tyS 8 (nI v) stk = some (true :: stk) := by
  unfold tyS
  rw [if_neg (by decide), if_pos rfl, if_pos ⟨by rw [nI_toInt (by omega)]; omega, by omega⟩]
theorem tyS_6 {k : Int32} (hk : k = 6 ∨ k = 7) {stk : List Bool} (hs : stk.length ≤ 31) : tyS k 0 stk = some (true :: stk) := by
  unfold tyS
  rw [if_neg (by rcases hk with rfl | rfl <;> decide), if_neg (by rcases hk with rfl | rfl <;> decide), if_pos hk, if_pos (by omega)]
theorem nsb (d : Nat) : nI (d + 1) - (1 : Int32) = nI d := by
  rw [nl_1, nsub (by omega)]
  congr 1
variable {rcC : Nat → Nat → Nat → Int32 → Hp → Option (Int32 × Hp)} {rcM : Nat → Nat → Hp → Option (Int32 × Hp)}
/-- what is deeper, if it may be -/
def Deep (h : Hp) (b : Nat → Int32) (n : Nat) (F : Nat → Int32) (i d : Nat) (rcC : Nat → Nat → Nat → Int32 → Hp → Option (Int32 × Hp)) (rcM : Nat → Nat → Hp → Option (Int32 × Hp)) : Prop :=
  d < 6 → ∃ rc2, (∀ z, rcC 3 38 1 (nI (d + 1)) z = F_X10_readDeeper_b0 rc2 38 1 (nI (d + 1)) z) ∧ NT h b n F i (2 * d + 10) true (d + 1) (rc2 0 38 1 (nI (d + 1))) (rcM 2 59) ∧ NT h b n F i (2 * d + 10) true (d + 1) (rc2 2 38 1 (nI (d + 1))) (rcM 0 59)
variable {st p g : Nat} {J K : Nat → Nat → Int32} {G : Nat → Int32} {t : Int32}
theorem atom_par (s : Sh h) (hd : d ≤ 6) (D : Deep h b n F i d rcC rcM) (e : ES b n F i d st p J K G) (c1 : tS b n p < n ∧ b (tS b n p) = 40) : WO h b n F i (2 * d + 10) true d st p J K G (F_X10_readAtom_b0 rcC 38 1 (nI d) (cT h b n J F (tS b n p) t (-1))) (fun hM => F_X12_readAtom_b0 rcM 59 (rfT hM K G p g)) := by
  obtain ⟨tc, tm, e3, e4, e5, e6, hp⟩ := id e
  have hn := tc.1
  have hq := tS_le (b := b) hp
  have hg := tS_ge (b := b) (n := n) p
  have nw : ¬ tIs b n (tS b n p) w_not := fun x => by
    have := tTo_first isLe b (tIs_lt (by decide) x)
    rw [c1.2] at this
    exact absurd this (by decide)
  have eN : tS b n (tS b n p + 1) = tN b n (tS b n p) := by
    unfold tN
    rw [tE_3 sg40.1 sg40.2 c1.1 c1.2]
  have ch : F_X10_readAtom_b0 rcC 38 1 (nI d) (cT h b n J F (tS b n p) t (-1)) = F_X10_readAtom_b18 rcC 38 1 (nI d) (cT h b n J F (tS b n p) t (-1)) := by
    unfold F_X10_readAtom_b0
    rw [x_isW0 s tc hq wrd_14 nw, ob_s, cT_k, gd_d (k1 s), if_pos rfl, x_isS1 s tc sg40 hq c1, ob_s, if_neg (by decide)]
  have mh : ∀ hM, Sh hM → F_X12_readAtom_b0 rcM 59 (rfT hM K G p g) = (if (nI d) = (6 : Int32) then some ((0 : Int32), rfT hM K G (tS b n p + 1) (tS b n p)) else ob2 (rcM 2 59 (rfT hM K (va_up G 10 (nI (d + 1))) (tS b n p + 1) (tS b n p))) fun r77 h78 => (if r77 = 0 then some ((0 : Int32), h78) else gd (decide (kd h78 59 = 11)) <| ob2 (F_X12_sign 59 (41 : Int32) (setI h78 59 10 ((zI h78 59 10) - (1 : Int32)))) fun r81 h82 => gd (decide (r81 = 0 ∨ r81 = 1)) <| some (r81, h82))) := fun hM sM => by
    unfold F_X12_readAtom_b0
    rw [m_sign1 sM tm hp c1, ob2_s, m_k, gd_d (k59 sM), if_neg (by decide), m_k, gd_d (k59 sM), m_rG (by decide) (by decide), e5, nS_1, m_sG _ (by decide) (by decide)]
  rcases nd6 hd with ⟨-, x1, x2⟩ | ⟨d6, x1, x2⟩
  · left
    refine ⟨tS b n p, tS b n p, J, t, K, G, tS b n p + 1, ?_, fun hM sM => ?_, WF_r⟩
    · rw [ch]
      unfold F_X10_readAtom_b18 F_X10_readAtom_b39
      rw [if_pos x1, x_refuse s, ob2_s, cT_k, gd_d (k1 s), gd_d (Or.inl rfl)]
    · show F_X12_readAtom_b0 rcM 59 (rfT hM K G p g) = _
      rw [mh hM sM, if_pos x2]
  · obtain ⟨rc2, dz, A, -⟩ := D d6
    have nx := x_nxt (t := t) (w := -1) s tc hq
    rw [← eN] at nx
    have e' : ES b n F i (d + 1) st (tS b n p + 1) J K (va_up G 10 (nI (d + 1))) := ES_d (ES_p e (by omega) (by omega))
    have cd : F_X10_readAtom_b0 rcC 38 1 (nI d) (cT h b n J F (tS b n p) t (-1)) = ob2 (ob2 (rc2 0 38 1 (nI (d + 1)) (cT h b n J F (tS b n (tS b n p + 1)) t (-1))) fun r8 h9 => gd (decide (kd (cT h b n J F (tS b n (tS b n p + 1)) t (-1)) 38 = 9)) <| (if r8 = 0 then F_X10_readDeeper_b61 rc2 h9 else ob2 (F_X6_takeSign 1 (41 : Int32) h9) fun r13 h14 => gd (decide (kd h9 1 = 6)) <| (if r13 = 0 then F_X10_readDeeper_b61 rc2 h14 else F_X10_readDeeper_b62 rc2 (1 : Int32) h14))) fun r10 h11 => gd (decide (kd (cT h b n J F (tS b n p) t (-1)) 38 = 9)) <| F_X10_readAtom_b39 rcC r10 h11 := by
      rw [ch]
      unfold F_X10_readAtom_b18
      rw [if_neg x1, nS_1, dz]
      unfold F_X10_readDeeper_b0
      rw [x_isW0 s tc hq wrd_14 nw, ob_s, cT_k, gd_d (k1 s), nx, ob2_s, if_pos rfl]
    rcases A st (tS b n p + 1) (tS b n p) J K _ t e' with ⟨f, q', J', t', K', G', p', a1, a2, a3⟩ | ⟨st1, J1, t1, K1, G1, p2, g1, a1, a2, hp2, r⟩
    · left
      refine ⟨f, q', J', t', K', G', p', ?_, fun hM sM => ?_, WF_t WF_d a3⟩
      · rw [cd, a1, ob2_s, cT_k, gd_d (k38 s).1, if_pos rfl]
        unfold F_X10_readDeeper_b61 F_X10_readDeeper_b62 F_X10_readAtom_b39
        rw [gd_d (Or.inl rfl), ob2_s, cT_k, gd_d (k38 s).1, gd_d (Or.inl rfl)]
      · have a2 : rcM 2 59 (rfT hM K (va_up G 10 (nI (d + 1))) (tS b n p + 1) (tS b n p)) = some (0, rfT hM K' G' p' f) := a2 hM sM
        show F_X12_readAtom_b0 rcM 59 (rfT hM K G p g) = _
        rw [mh hM sM, if_neg x2, a2, ob2_s, if_pos rfl]
    · have e1 := ES_TR e' r hp2
      have tm1 : TM b n K1 (va_up G1 10 (nI d)) := WF_TM (J := J1) WF_d e1.2.1
      have hq2 := tS_le (b := b) hp2
      have hg2 := tS_ge (b := b) (n := n) p2
      have m2 : ∀ hM, Sh hM → F_X12_readAtom_b0 rcM 59 (rfT hM K G p g) = ob2 (F_X12_sign 59 (41 : Int32) (rfT hM K1 (va_up G1 10 (nI d)) p2 g1)) fun r81 h82 => gd (decide (r81 = 0 ∨ r81 = 1)) <| some (r81, h82) := fun hM sM => by
        have a2 : rcM 2 59 (rfT hM K (va_up G 10 (nI (d + 1))) (tS b n p + 1) (tS b n p)) = some (1, rfT hM K1 G1 p2 g1) := a2 hM sM
        rw [mh hM sM, if_neg x2, a2, ob2_s, if_neg (by decide), m_k, gd_d (k59 sM), m_rG (by decide) (by decide), e1.2.2.2.2.1, nsb, m_sG _ (by decide) (by decide)]
      by_cases c2 : tS b n p2 < n ∧ b (tS b n p2) = 41
      · right
        have eN2 : tS b n (tS b n p2 + 1) = tN b n (tS b n p2) := by
          unfold tN
          rw [tE_3 sg41.1 sg41.2 c2.1 c2.2]
        refine ⟨st1, J1, t1, K1, va_up G1 10 (nI d), tS b n p2 + 1, tS b n p2, ?_, fun hM sM => ?_, by omega, TR_deep r (by omega) (by omega)⟩
        · rw [cd, a1, ob2_s, cT_k, gd_d (k38 s).1, if_neg (by decide), x_takeS1 s e1.1 sg41 hq2 c2, ob2_s, cT_k, gd_d (k1 s), if_neg (by decide)]
          unfold F_X10_readDeeper_b62 F_X10_readAtom_b39
          rw [gd_d (Or.inr rfl), ob2_s, cT_k, gd_d (k38 s).1, gd_d (Or.inr rfl), eN2]
        · show F_X12_readAtom_b0 rcM 59 (rfT hM K G p g) = _
          rw [m2 hM sM, m_sign1 sM tm1 hp2 c2, ob2_s, gd_d (Or.inr rfl)]
      · left
        refine ⟨tS b n p2, tS b n p2, J1, t1, K1, va_up G1 10 (nI d), tS b n p2, ?_, fun hM sM => ?_, WF_t (WF_t WF_d r.2.1) WF_d⟩
        · rw [cd, a1, ob2_s, cT_k, gd_d (k38 s).1, if_neg (by decide), x_takeS0 s e1.1 sg41 hq2 c2, ob2_s, cT_k, gd_d (k1 s), if_pos rfl]
          unfold F_X10_readDeeper_b61 F_X10_readDeeper_b62 F_X10_readAtom_b39
          rw [gd_d (Or.inl rfl), ob2_s, cT_k, gd_d (k38 s).1, gd_d (Or.inl rfl)]
        · show F_X12_readAtom_b0 rcM 59 (rfT hM K G p g) = _
          rw [m2 hM sM, m_sign0 sM tm1 hp2 c2, ob2_s, gd_d (Or.inl rfl)]
/-- a word that the reference passes, or doesn't -/
theorem ps_1 {hM : Hp} (sM : Sh hM) (tm : TM b n K G) {q : Nat} (hq : q ≤ n) (id0 : tS b n q = q) {g : Nat} {v : UInt32} {l : List Int32} (d1 : Wd v l) (ew : tIs b n q l) : F_X12_passes 59 v (rfT hM K G q g) = some (1, rfT hM K G (tW b n q) q) := by
  have := m_pass1 (g := g) sM tm hq d1 (by rw [id0]; exact ew)
  rw [id0] at this
  exact this
theorem ps_0 {hM : Hp} (sM : Sh hM) (tm : TM b n K G) {q : Nat} (hq : q ≤ n) (id0 : tS b n q = q) {g : Nat} {v : UInt32} {l : List Int32} (d1 : Wd v l) (ew : ¬ tIs b n q l) : F_X12_passes 59 v (rfT hM K G q g) = some (0, rfT hM K G q q) := by
  have := m_pass0 (g := g) sM tm hq d1 (by rw [id0]; exact ew)
  rw [id0] at this
  exact this
theorem atom_not (s : Sh h) (hd : d ≤ 6) (D : Deep h b n F i d rcC rcM) (e : ES b n F i d st p J K G) (c1 : ¬ (tS b n p < n ∧ b (tS b n p) = 40)) (ew : tIs b n (tS b n p) w_not) : WO h b n F i (2 * d + 10) true d st p J K G (F_X10_readAtom_b0 rcC 38 1 (nI d) (cT h b n J F (tS b n p) t (-1))) (fun hM => F_X12_readAtom_b0 rcM 59 (rfT hM K G p g)) := by
  obtain ⟨tc, tm, e3, e4, e5, e6, hp⟩ := id e
  have hn := tc.1
  have hq := tS_le (b := b) hp
  have hg := tS_ge (b := b) (n := n) p
  have id0 := tS_idem (b := b) hp
  have lt := tIs_lt (by decide) ew
  have wl : tW b n (tS b n p) ≤ n := tTo_le isLe b hq
  have ch : F_X10_readAtom_b0 rcC 38 1 (nI d) (cT h b n J F (tS b n p) t (-1)) = F_X10_readAtom_b18 rcC 38 1 (nI d) (cT h b n J F (tS b n p) t (-1)) := by
    unfold F_X10_readAtom_b0
    rw [x_isW1 s tc hq wrd_14 ew, ob_s, cT_k, gd_d (k1 s), if_neg (by decide)]
  have mh : ∀ hM, Sh hM → F_X12_readAtom_b0 rcM 59 (rfT hM K G p g) = (if (nI d) = (6 : Int32) then some ((0 : Int32), rfT hM K G (tW b n (tS b n p)) (tS b n p)) else ob2 (rcM 0 59 (rfT hM K (va_up G 10 (nI (d + 1))) (tW b n (tS b n p)) (tS b n p))) fun r66 h67 => (if r66 = 0 then some ((0 : Int32), h67) else gd (decide (kd h67 59 = 11)) <| ob2 (F_X12_emits 59 (13 : Int32) (0 : Int32) (setI h67 59 10 ((zI h67 59 10) - (1 : Int32)))) fun _ h71 => some ((1 : Int32), h71))) := fun hM sM => by
    unfold F_X12_readAtom_b0
    rw [m_sign0 sM tm hp c1, ob2_s, m_k, gd_d (k59 sM), if_pos rfl, ps_1 sM tm hq id0 wrd_54 ew, ob2_s, m_k, gd_d (k59 sM), if_neg (by decide), m_k, gd_d (k59 sM), m_rG (by decide) (by decide), e5, nS_1, m_sG _ (by decide) (by decide)]
  rcases nd6 hd with ⟨-, x1, x2⟩ | ⟨d6, x1, x2⟩
  · left
    refine ⟨tS b n p, tS b n p, J, t, K, G, tW b n (tS b n p), ?_, fun hM sM => ?_, WF_r⟩
    · rw [ch]
      unfold F_X10_readAtom_b18 F_X10_readAtom_b39
      rw [if_pos x1, x_refuse s, ob2_s, cT_k, gd_d (k1 s), gd_d (Or.inl rfl)]
    · show F_X12_readAtom_b0 rcM 59 (rfT hM K G p g) = _
      rw [mh hM sM, if_pos x2]
  · obtain ⟨rc2, dz, -, A⟩ := D d6
    have nx := x_nxt (t := t) (w := -1) s tc hq
    rw [← tN_w lt] at nx
    have e' : ES b n F i (d + 1) st (tW b n (tS b n p)) J K (va_up G 10 (nI (d + 1))) := ES_d (ES_p e (by omega) wl)
    have cd : F_X10_readAtom_b0 rcC 38 1 (nI d) (cT h b n J F (tS b n p) t (-1)) = ob2 (ob2 (rc2 2 38 1 (nI (d + 1)) (cT h b n J F (tS b n (tW b n (tS b n p))) t (-1))) fun r19 h20 => gd (decide (kd (cT h b n J F (tS b n (tW b n (tS b n p))) t (-1)) 38 = 9)) <| (if r19 = 0 then F_X10_readDeeper_b37 rc2 h20 else ob2 (F_X10_put 38 (-6 : Int32) h20) fun r24 h25 => gd (decide (kd h20 38 = 9)) <| (if r24 = 0 then F_X10_readDeeper_b37 rc2 h25 else F_X10_readDeeper_b38 rc2 (1 : Int32) h25))) fun r10 h11 => gd (decide (kd (cT h b n J F (tS b n p) t (-1)) 38 = 9)) <| F_X10_readAtom_b39 rcC r10 h11 := by
      rw [ch]
      unfold F_X10_readAtom_b18
      rw [if_neg x1, nS_1, dz]
      unfold F_X10_readDeeper_b0
      rw [x_isW1 s tc hq wrd_14 ew, ob_s, cT_k, gd_d (k1 s), nx, ob2_s, if_neg (by decide)]
    rcases A st (tW b n (tS b n p)) (tS b n p) J K _ t e' with ⟨f, q', J', t', K', G', p', a1, a2, a3⟩ | ⟨st1, J1, t1, K1, G1, p2, g1, a1, a2, hp2, r⟩
    · left
      refine ⟨f, q', J', t', K', G', p', ?_, fun hM sM => ?_, WF_t WF_d a3⟩
      · rw [cd, a1, ob2_s, cT_k, gd_d (k38 s).1, if_pos rfl]
        unfold F_X10_readDeeper_b37 F_X10_readDeeper_b38 F_X10_readAtom_b39
        rw [gd_d (Or.inl rfl), ob2_s, cT_k, gd_d (k38 s).1, gd_d (Or.inl rfl)]
      · have a2 : rcM 0 59 (rfT hM K (va_up G 10 (nI (d + 1))) (tW b n (tS b n p)) (tS b n p)) = some (0, rfT hM K' G' p' f) := a2 hM sM
        show F_X12_readAtom_b0 rcM 59 (rfT hM K G p g) = _
        rw [mh hM sM, if_neg x2, a2, ob2_s, if_pos rfl]
    · right
      have e1 := ES_TR e' r hp2
      have l2 := e1.2.2.2.2.2.1
      refine ⟨st1 + 1, pJ J1 (st1 + i) (-6), t1, eK K1 st1 13 0, eG (va_up G1 10 (nI d)) st1, p2, g1, ?_, fun hM sM => ?_, hp2, TR_not r (by omega)⟩
      · rw [cd, a1, ob2_s, cT_k, gd_d (k38 s).1, if_neg (by decide), x_cput s e1.2.2.1 (by omega), ob2_s, cT_k, gd_d (k38 s).1, if_neg (by decide)]
        unfold F_X10_readDeeper_b38 F_X10_readAtom_b39
        rw [gd_d (Or.inr rfl), ob2_s, cT_k, gd_d (k38 s).1, gd_d (Or.inr rfl)]
      · have a2 : rcM 0 59 (rfT hM K (va_up G 10 (nI (d + 1))) (tW b n (tS b n p)) (tS b n p)) = some (1, rfT hM K1 G1 p2 g1) := a2 hM sM
        show F_X12_readAtom_b0 rcM 59 (rfT hM K G p g) = _
        rw [mh hM sM, if_neg x2, a2, ob2_s, if_neg (by decide), m_k, gd_d (k59 sM), m_rG (by decide) (by decide), e1.2.2.2.2.1, nsb, m_sG _ (by decide) (by decide), m_emit sM (by rw [va_o _ _ (by decide)]; exact e1.2.2.2.1) (by omega), ob2_s]
end WATOM
