/-! WISHES: parts that are joined, in a loop, both sides -/
section WLOOP
variable {h : Hp} {b : Nat → Int32} {n : Nat} {F : Nat → Int32}
def WO (h : Hp) (b : Nat → Int32) (n : Nat) (F : Nat → Int32) (i B : Nat) (ty : Bool) (d st p : Nat) (J K : Nat → Nat → Int32) (G : Nat → Int32) (rc : Option (Int32 × Hp)) (rm : Hp → Option (Int32 × Hp)) : Prop :=
  (∃ f q' J' t' K' G' p', rc = some (0, cT h b n J' F q' t' (nI f)) ∧ (∀ hM, Sh hM → rm hM = some (0, rfT hM K' G' p' f)) ∧ WF J K G J' K' G') ∨
  (∃ st' J' t' K' G' p' g', rc = some (1, cT h b n J' F (tS b n p') t' (-1)) ∧ (∀ hM, Sh hM → rm hM = some (1, rfT hM K' G' p' g')) ∧ p' ≤ n ∧ TR i B ty d st p J K G st' p' J' K' G')
def NT (h : Hp) (b : Nat → Int32) (n : Nat) (F : Nat → Int32) (i B : Nat) (ty : Bool) (d : Nat) (RC RM : Hp → Option (Int32 × Hp)) : Prop :=
  ∀ st p g J K G t, ES b n F i d st p J K G → WO h b n F i B ty d st p J K G (RC (cT h b n J F (tS b n p) t (-1))) (fun hM => RM (rfT hM K G p g))
variable {i B BX d : Nat} {ty : Bool} {X Y : Hp → Option (Int32 × Hp)} {T : Hp → Option Int32} {P : Hp → Option (Int32 × Hp)} {op k : Int32}
theorem WO_b {st p B2 : Nat} {J K : Nat → Nat → Int32} {G : Nat → Int32} {rc : Option (Int32 × Hp)} {rm : Hp → Option (Int32 × Hp)} (w : WO h b n F i B ty d st p J K G rc rm) (hB : B2 ≤ B) : WO h b n F i B2 ty d st p J K G rc rm := by
  rcases w with w | ⟨st', J', t', K', G', p', g', a1, a2, a3, a4⟩
  · exact Or.inl w
  · exact Or.inr ⟨st', J', t', K', G', p', g', a1, a2, a3, TR_b a4 hB⟩
theorem NT_b {B2 : Nat} {RC RM : Hp → Option (Int32 × Hp)} (w : NT h b n F i B ty d RC RM) (hB : B2 ≤ B) : NT h b n F i B2 ty d RC RM := fun st p g J K G t e => WO_b (w st p g J K G t e) hB
def lpC (T : Hp → Option Int32) (X : Hp → Option (Int32 × Hp)) (op v : Int32) (h : Hp) : Option ((Int32 × Hp) ⊕ (Hp ⊕ Hp)) :=
  (if (400 : Int32) ≤ v then some (.inr (.inl h)) else ob (T h) fun r6 => gd (decide (kd h 1 = 6)) <| (if r6 = 0 then some (.inr (.inl h)) else ob2 (F_X6_lookAtNext 1 h) fun _ h10 => ob2 (X h10) fun r12 h13 => gd (decide (kd h10 38 = 9)) <| (if r12 = 0 then some (.inr (.inr h13)) else ob2 (F_X10_put 38 op h13) fun r16 h17 => gd (decide (kd h13 38 = 9)) <| some (.inl (v + (1 : Int32), h17)))))
def lpM (P X : Hp → Option (Int32 × Hp)) (k : Int32) (h : Hp) : Option (Hp ⊕ (Hp ⊕ Hp)) :=
  ob2 (P h) fun r6 h7 => gd (decide (kd h 59 = 11)) <| (if r6 = 0 then some (.inr (.inl h7)) else ob2 (X h7) fun r10 h11 => gd (decide (kd h7 59 = 11)) <| (if r10 = 0 then some (.inr (.inr h11)) else ob2 (F_X12_emits 59 k (0 : Int32) h11) fun _ h15 => gd (decide (kd h11 59 = 11)) <| some (.inl h15)))
def endL (z : Hp ⊕ Hp) : Option (Int32 × Hp) := sm z (fun h22 => some ((1 : Int32), h22)) (fun h23 => some ((0 : Int32), h23))
def opC (T : Hp → Option Int32) (X : Hp → Option (Int32 × Hp)) (op : Int32) (h : Hp) : Option (Int32 × Hp) :=
  ob2 (X h) fun r2 h3 => gd (decide (kd h 38 = 9)) <| (if r2 = 0 then some ((0 : Int32), h3) else ob (iter (fun z : Int32 × Hp => lpC T X op z.1 z.2) FU ((0 : Int32), h3)) endL)
def opM (P X : Hp → Option (Int32 × Hp)) (k : Int32) (h : Hp) : Option (Int32 × Hp) :=
  ob2 (X h) fun r2 h3 => gd (decide (kd h 59 = 11)) <| (if r2 = 0 then some ((0 : Int32), h3) else ob (iter (fun z : Hp => lpM P X k z) FU h3) endL)
/-- both sides see the same sign or word -/
def TestOk (h : Hp) (b : Nat → Int32) (n : Nat) (F : Nat → Int32) (T : Hp → Option Int32) (P : Hp → Option (Int32 × Hp)) : Prop :=
  ∀ J K G p g t, TC b n J F → TM b n K G → p ≤ n →
  (T (cT h b n J F (tS b n p) t (-1)) = some 1 ∧ ∃ p1 g1, p < p1 ∧ p1 ≤ n ∧ tS b n p1 = tN b n (tS b n p) ∧ ∀ hM, Sh hM → P (rfT hM K G p g) = some (1, rfT hM K G p1 g1)) ∨
  (T (cT h b n J F (tS b n p) t (-1)) = some 0 ∧ ∀ hM, Sh hM → P (rfT hM K G p g) = some (0, rfT hM K G (tS b n p) (tS b n p)))
theorem tS_ge (p : Nat) : p ≤ tS b n p := tTo_ge isBl b n p
theorem test_s (s : Sh h) {c : Int32} (hc : sgn c) : TestOk h b n F (F_X6_isSign 1 c) (F_X12_sign 59 c) := by
  intro J K G p g t tc tm hp
  have hq := tS_le (b := b) hp
  have hg := tS_ge (b := b) (n := n) p
  by_cases e : tS b n p < n ∧ b (tS b n p) = c
  · left
    refine ⟨x_isS1 s tc hc hq e, tS b n p + 1, tS b n p, by omega, by omega, ?_, fun hM sM => m_sign1 sM tm hp e⟩
    unfold tN
    rw [tE_3 hc.1 hc.2 e.1 e.2]
  · right
    exact ⟨x_isS0 s tc hc hq e, fun hM sM => m_sign0 sM tm hp e⟩
theorem test_w (s : Sh h) {v v2 : UInt32} {l : List Int32} (d1 : Wd v l) (d2 : Wd v2 l) : TestOk h b n F (F_X6_isWord 1 v) (F_X12_passes 59 v2) := by
  intro J K G p g t tc tm hp
  have hq := tS_le (b := b) hp
  have hg := tS_ge (b := b) (n := n) p
  by_cases e : tIs b n (tS b n p) l
  · left
    have lt := tIs_lt d1.2.2.1 e
    refine ⟨x_isW1 s tc hq d1 e, tW b n (tS b n p), tS b n p, by omega, tTo_le isLe b hq, tN_w lt, fun hM sM => m_pass1 sM tm hp d2 e⟩
  · right
    exact ⟨x_isW0 s tc hq d1 e, fun hM sM => m_pass0 sM tm hp d2 e⟩
theorem n400 {v : Nat} (h : v < 400) : ¬ (400 : Int32) ≤ nI v := nI_ge (b := 400) h (by omega)
theorem loop_j (s : Sh h) (hT : TestOk h b n F T P) (hX : NT h b n F i BX ty d X Y) (hB : B + 1 ≤ BX) (hop : ∀ stk : List Bool, tyS k 0 (ty :: ty :: stk) = some (ty :: stk)) (hcod : cod k 0 = op) {st0 p0 : Nat} {J0 K0 : Nat → Nat → Int32} {G0 : Nat → Int32} :
    ∀ m st p g J K G t v fc fm, n - p ≤ m → TR i B ty d st0 p0 J0 K0 G0 st p J K G → ES b n F i d st p J K G → v + 1 ≤ p → m < fc → m < fm →
    WO h b n F i B ty d st0 p0 J0 K0 G0 (ob (iter (fun z : Int32 × Hp => lpC T X op z.1 z.2) fc (nI v, cT h b n J F (tS b n p) t (-1))) endL) (fun hM => ob (iter (fun z : Hp => lpM P Y k z) fm (rfT hM K G p g)) endL) := by
  intro m
  induction m with
  | zero =>
    intro st p g J K G t v fc fm hm r e hv hfc hfm
    obtain ⟨fc, rfl⟩ : ∃ x, fc = x + 1 := ⟨fc - 1, by omega⟩
    obtain ⟨fm, rfl⟩ : ∃ x, fm = x + 1 := ⟨fm - 1, by omega⟩
    have hp := e.2.2.2.2.2.2
    have hn := e.1.1
    rcases hT J K G p g t e.1 e.2.1 hp with ⟨t1, p1, g1, q1, q2, q3, q4⟩ | ⟨t1, q4⟩
    · exfalso
      omega
    · right
      refine ⟨st, J, t, K, G, tS b n p, tS b n p, ?_, fun hM sM => ?_, tS_le hp, TR_p r (tS_ge p)⟩
      · rw [tS_idem hp, iter_r (x := .inl (cT h b n J F (tS b n p) t (-1))) (by
          show lpC T X op (nI v) _ = _
          unfold lpC
          rw [if_neg (n400 (by omega)), t1, ob_s, cT_k, gd_d (k1 s), if_pos rfl]), ob_s]
        rfl
      · show ob (iter (fun z : Hp => lpM P Y k z) (fm + 1) (rfT hM K G p g)) endL = _
        rw [iter_r (x := .inl (rfT hM K G (tS b n p) (tS b n p))) (by
          show lpM P Y k _ = _
          unfold lpM
          rw [q4 hM sM, ob2_s, m_k, gd_d (k59 sM), if_pos rfl]), ob_s]
        rfl
  | succ m ih =>
    intro st p g J K G t v fc fm hm r e hv hfc hfm
    obtain ⟨fc, rfl⟩ : ∃ x, fc = x + 1 := ⟨fc - 1, by omega⟩
    obtain ⟨fm, rfl⟩ : ∃ x, fm = x + 1 := ⟨fm - 1, by omega⟩
    have hp := e.2.2.2.2.2.2
    have hn := e.1.1
    rcases hT J K G p g t e.1 e.2.1 hp with ⟨t1, p1, g1, q1, q2, q3, q4⟩ | ⟨t1, q4⟩
    · have e1 := ES_p e (show p ≤ p1 by omega) q2
      have nx := x_nxt (t := t) (w := -1) s e.1 (tS_le (b := b) hp)
      rw [← q3] at nx
      rcases hX st p1 g1 J K G t e1 with ⟨f, q', J', t', K', G', p', a1, a2, a3⟩ | ⟨st', J', t', K', G', p', g', a1, a2, a3, a4⟩
      · left
        refine ⟨f, q', J', t', K', G', p', ?_, fun hM sM => ?_, WF_t r.2.1 a3⟩
        · rw [iter_r (x := .inr (cT h b n J' F q' t' (nI f))) (by
            show lpC T X op (nI v) _ = _
            unfold lpC
            rw [if_neg (n400 (by omega)), t1, ob_s, cT_k, gd_d (k1 s), if_neg (by decide), nx, ob2_s, a1, ob2_s, cT_k, gd_d (k38 s).1, if_pos rfl]), ob_s]
          rfl
        · show ob (iter (fun z : Hp => lpM P Y k z) (fm + 1) (rfT hM K G p g)) endL = _
          have a2 : Y (rfT hM K G p1 g1) = some (0, rfT hM K' G' p' f) := a2 hM sM
          rw [iter_r (x := .inr (rfT hM K' G' p' f)) (by
            show lpM P Y k _ = _
            unfold lpM
            rw [q4 hM sM, ob2_s, m_k, gd_d (k59 sM), if_neg (by decide), a2, ob2_s, m_k, gd_d (k59 sM), if_pos rfl]), ob_s]
          rfl
      · have e2 := ES_TR e1 a4 a3
        have lt := e2.2.2.2.2.2.1
        have lt2 := a4.1.2.2
        have pu := x_cput (b := b) (n := n) (F := F) (q := tS b n p') (t := t') (w := -1) s e2.2.2.1 (show st' + i < 400 by omega) op
        have r3 := TR_op r q1 a4 hB hop
        rw [hcod] at r3
        have rl := a4.1.2.1
        have el := e.2.2.2.2.2.1
        have e3 : ES b n F i d (st' + 1) p' (pJ J' (st' + i) op) (eK K' st' k 0) (eG G' st') := ES_put e2 (by omega)
        have c1 : iter (fun z : Int32 × Hp => lpC T X op z.1 z.2) (fc + 1) (nI v, cT h b n J F (tS b n p) t (-1)) = iter (fun z : Int32 × Hp => lpC T X op z.1 z.2) fc (nI (v + 1), cT h b n (pJ J' (st' + i) op) F (tS b n p') t' (-1)) := iter_l (by
          show lpC T X op (nI v) _ = _
          unfold lpC
          rw [if_neg (n400 (by omega)), t1, ob_s, cT_k, gd_d (k1 s), if_neg (by decide), nx, ob2_s, a1, ob2_s, cT_k, gd_d (k38 s).1, if_neg (by decide), pu, ob2_s, cT_k, gd_d (k38 s).1, nS_1])
        have c2 : ∀ hM, Sh hM → iter (fun z : Hp => lpM P Y k z) (fm + 1) (rfT hM K G p g) = iter (fun z : Hp => lpM P Y k z) fm (rfT hM (eK K' st' k 0) (eG G' st') p' g') := fun hM sM => iter_l (by
          have a2 : Y (rfT hM K G p1 g1) = some (1, rfT hM K' G' p' g') := a2 hM sM
          show lpM P Y k _ = _
          unfold lpM
          rw [q4 hM sM, ob2_s, m_k, gd_d (k59 sM), if_neg (by decide), a2, ob2_s, m_k, gd_d (k59 sM), if_neg (by decide), m_emit sM e2.2.2.2.1 (by omega), ob2_s, m_k, gd_d (k59 sM)])
        rw [c1]
        rcases ih (st' + 1) p' g' _ _ _ t' (v + 1) fc fm (by omega) r3 e3 (by omega) (by omega) (by omega) with ⟨f, q', J2, t2, K2, G2, p2, b1, b2, b3⟩ | ⟨st2, J2, t2, K2, G2, p2, g2, b1, b2, b3, b4⟩
        · exact Or.inl ⟨f, q', J2, t2, K2, G2, p2, b1, fun hM sM => by
            show ob (iter (fun z : Hp => lpM P Y k z) (fm + 1) (rfT hM K G p g)) endL = _
            rw [c2 hM sM]
            exact b2 hM sM, b3⟩
        · exact Or.inr ⟨st2, J2, t2, K2, G2, p2, g2, b1, fun hM sM => by
            show ob (iter (fun z : Hp => lpM P Y k z) (fm + 1) (rfT hM K G p g)) endL = _
            rw [c2 hM sM]
            exact b2 hM sM, b3, b4⟩
    · right
      refine ⟨st, J, t, K, G, tS b n p, tS b n p, ?_, fun hM sM => ?_, tS_le hp, TR_p r (tS_ge p)⟩
      · rw [tS_idem hp, iter_r (x := .inl (cT h b n J F (tS b n p) t (-1))) (by
          show lpC T X op (nI v) _ = _
          unfold lpC
          rw [if_neg (n400 (by omega)), t1, ob_s, cT_k, gd_d (k1 s), if_pos rfl]), ob_s]
        rfl
      · show ob (iter (fun z : Hp => lpM P Y k z) (fm + 1) (rfT hM K G p g)) endL = _
        rw [iter_r (x := .inl (rfT hM K G (tS b n p) (tS b n p))) (by
          show lpM P Y k _ = _
          unfold lpM
          rw [q4 hM sM, ob2_s, m_k, gd_d (k59 sM), if_pos rfl]), ob_s]
        rfl
theorem op_nt (s : Sh h) (hT : TestOk h b n F T P) (hX : NT h b n F i BX ty d X Y) (hB : B + 1 ≤ BX) (hop : ∀ stk : List Bool, tyS k 0 (ty :: ty :: stk) = some (ty :: stk)) (hcod : cod k 0 = op) : NT h b n F i B ty d (opC T X op) (opM P Y k) := by
  intro st p g J K G t e
  have hn := e.1.1
  rcases hX st p g J K G t e with ⟨f, q', J', t', K', G', p', a1, a2, a3⟩ | ⟨st', J', t', K', G', p', g', a1, a2, a3, a4⟩
  · left
    refine ⟨f, q', J', t', K', G', p', ?_, fun hM sM => ?_, a3⟩
    · unfold opC
      rw [a1, ob2_s, cT_k, gd_d (k38 s).1, if_pos rfl]
    · have a2 : Y (rfT hM K G p g) = some (0, rfT hM K' G' p' f) := a2 hM sM
      show opM P Y k (rfT hM K G p g) = _
      unfold opM
      rw [a2, ob2_s, m_k, gd_d (k59 sM), if_pos rfl]
  · have e2 := ES_TR e a4 a3
    have key := loop_j s hT hX hB hop hcod (n - p') st' p' g' J' K' G' t' 0 FU FU (Nat.le_refl _) (TR_b a4 (by omega)) e2 (by have := e2.2.2.2.2.2.1; omega) (FU_lt (by omega)) (FU_lt (by omega))
    have c1 : opC T X op (cT h b n J F (tS b n p) t (-1)) = ob (iter (fun z : Int32 × Hp => lpC T X op z.1 z.2) FU (nI 0, cT h b n J' F (tS b n p') t' (-1))) endL := by
      unfold opC
      rw [a1, ob2_s, cT_k, gd_d (k38 s).1, if_neg (by decide)]
      rfl
    have c2 : ∀ hM, Sh hM → opM P Y k (rfT hM K G p g) = ob (iter (fun z : Hp => lpM P Y k z) FU (rfT hM K' G' p' g')) endL := fun hM sM => by
      have a2 : Y (rfT hM K G p g) = some (1, rfT hM K' G' p' g') := a2 hM sM
      unfold opM
      rw [a2, ob2_s, m_k, gd_d (k59 sM), if_neg (by decide)]
    rw [c1]
    rcases key with ⟨f, q', J2, t2, K2, G2, p2, b1, b2, b3⟩ | ⟨st2, J2, t2, K2, G2, p2, g2, b1, b2, b3, b4⟩
    · exact Or.inl ⟨f, q', J2, t2, K2, G2, p2, b1, fun hM sM => (c2 hM sM).trans (b2 hM sM), b3⟩
    · exact Or.inr ⟨st2, J2, t2, K2, G2, p2, g2, b1, fun hM sM => (c2 hM sM).trans (b2 hM sM), b3, b4⟩
end WLOOP
