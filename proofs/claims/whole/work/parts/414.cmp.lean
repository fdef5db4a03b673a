/-! WISHES: a sum, a comparison -/
section WCMP
variable {h : Hp} {b : Nat → Int32} {n : Nat} {F : Nat → Int32} {i d : Nat}
theorem sg43 : sgn 43 := by unfold sgn; decide
theorem sg40 : sgn 40 := by unfold sgn; decide
theorem sg41 : sgn 41 := by unfold sgn; decide
theorem sg60 : sgn 60 := by unfold sgn; decide
theorem sg62 : sgn 62 := by unfold sgn; decide
/-- the class's loop over a sum: a round is a part, what joins it, and the sign behind it -/
def endS (z : Hp ⊕ (Hp ⊕ Hp)) : Option (Int32 × Hp) := sm z (fun h31 => ob2 (F_X6_refuse 1 h31) fun r33 h34 => gd (decide (kd h31 1 = 6)) <| gd (decide (r33 = 0 ∨ r33 = 1)) <| some (r33, h34)) (fun z => sm z (fun h37 => some ((0 : Int32), h37)) (fun h38 => some ((1 : Int32), h38)))
def loS (fc : Nat) (v : Int32) (h : Hp) : Option (Int32 × Hp) := ob (iter (fun z : Int32 × Hp => F_X10_readSum_l2 38 1 z.1 z.2) fc (v, h)) endS
/-- from the sign on -/
def tlS (fc : Nat) (v : Int32) (h : Hp) : Option (Int32 × Hp) := ob (F_X10_readSum_b62 38 1 v h) fun o => sm o (fun z => loS fc z.1 z.2) endS
theorem sL_eq {v : Int32} (hv : ¬ (400 : Int32) ≤ v) (h : Hp) : F_X10_readSum_l2 38 1 v h = partK (fun h5 => some (.inr (.inr (.inl h5)))) (fun h10 => if v ≤ 0 then F_X10_readSum_b62 38 1 v h10 else ob2 (F_X10_put 38 (-1) h10) fun _ h21 => gd (decide (kd h10 38 = 9)) <| F_X10_readSum_b62 38 1 v h21) h := by
  unfold F_X10_readSum_l2 F_X10_readSum_b46 partK
  rw [if_neg hv]
theorem iter_n {S X : Type} {body : S → Option (S ⊕ X)} {s : S} {f : Nat} (e : body s = none) : iter body (f + 1) s = none := by
  show (match body s with
    | none => none
    | some (.inl s') => iter body f s'
    | some (.inr x) => some x) = _
  rw [e]
theorem loS_t {fc : Nat} {v : Int32} {h h' : Hp} (e : F_X10_readSum_l2 38 1 v h = F_X10_readSum_b62 38 1 v h') : loS (fc + 1) v h = tlS fc v h' := by
  unfold tlS
  rcases e2 : F_X10_readSum_b62 38 1 v h' with _ | (z | x)
  · show ob (iter (fun z : Int32 × Hp => F_X10_readSum_l2 38 1 z.1 z.2) (fc + 1) (v, h)) endS = _
    rw [iter_n (e.trans e2)]
    rfl
  · show ob (iter (fun z : Int32 × Hp => F_X10_readSum_l2 38 1 z.1 z.2) (fc + 1) (v, h)) endS = _
    rw [iter_l (s' := z) (e.trans e2)]
    rfl
  · show ob (iter (fun z : Int32 × Hp => F_X10_readSum_l2 38 1 z.1 z.2) (fc + 1) (v, h)) endS = _
    rw [iter_r (x := x) (e.trans e2)]
    rfl
theorem loS_f {fc : Nat} {v : Int32} {h h' : Hp} (e : F_X10_readSum_l2 38 1 v h = some (.inr (.inr (.inl h')))) : loS (fc + 1) v h = some (0, h') := by
  unfold loS
  rw [iter_r (x := .inr (.inl h')) e]
  rfl
theorem sum_stop (s : Sh h) {st0 p0 st p g v fc fm : Nat} {J0 K0 J K : Nat → Nat → Int32} {G0 G : Nat → Int32} {t : Int32} (r : TR i 30 false d st0 p0 J0 K0 G0 st p J K G) (hp : p ≤ n) (t1 : F_X6_isSign 1 43 (cT h b n J F (tS b n p) t (-1)) = some 0) (q4 : ∀ hM, Sh hM → F_X12_sign 59 43 (rfT hM K G p g) = some (0, rfT hM K G (tS b n p) (tS b n p))) :
    WO h b n F i 30 false d st0 p0 J0 K0 G0 (tlS fc (nI v) (cT h b n J F (tS b n p) t (-1))) (fun hM => ob (iter (fun z : Hp => lpM (F_X12_sign 59 43) (F_X12_readPart 59) 10 z) (fm + 1) (rfT hM K G p g)) endL) := by
  right
  refine ⟨st, J, t, K, G, tS b n p, tS b n p, ?_, fun hM sM => ?_, tS_le hp, TR_p r (tS_ge p)⟩
  · unfold tlS F_X10_readSum_b62
    rw [tS_idem hp, t1, ob_s, cT_k, gd_d (k1 s), if_pos rfl, ob_s]
    rfl
  · show ob (iter (fun z : Hp => lpM (F_X12_sign 59 43) (F_X12_readPart 59) 10 z) (fm + 1) (rfT hM K G p g)) endL = _
    rw [iter_r (x := .inl (rfT hM K G (tS b n p) (tS b n p))) (by
      show lpM _ _ 10 _ = _
      unfold lpM
      rw [q4 hM sM, ob2_s, m_k, gd_d (k59 sM), if_pos rfl]), ob_s]
    rfl
theorem sum_l (s : Sh h) {st0 p0 : Nat} {J0 K0 : Nat → Nat → Int32} {G0 : Nat → Int32} :
    ∀ m st p g J K G t v fc fm, n - p ≤ m → TR i 30 false d st0 p0 J0 K0 G0 st p J K G → ES b n F i d st p J K G → v + 1 ≤ p → m < fc → m < fm →
    WO h b n F i 30 false d st0 p0 J0 K0 G0 (tlS fc (nI v) (cT h b n J F (tS b n p) t (-1))) (fun hM => ob (iter (fun z : Hp => lpM (F_X12_sign 59 43) (F_X12_readPart 59) 10 z) fm (rfT hM K G p g)) endL) := by
  intro m
  induction m with
  | zero =>
    intro st p g J K G t v fc fm hm r e hv hfc hfm
    obtain ⟨fm, rfl⟩ : ∃ x, fm = x + 1 := ⟨fm - 1, by omega⟩
    have hp := e.2.2.2.2.2.2
    rcases test_s s sg43 J K G p g t e.1 e.2.1 hp with ⟨t1, p1, g1, q1, q2, q3, q4⟩ | ⟨t1, q4⟩
    · exfalso
      omega
    · exact sum_stop s r hp t1 q4
  | succ m ih =>
    intro st p g J K G t v fc fm hm r e hv hfc hfm
    obtain ⟨fc, rfl⟩ : ∃ x, fc = x + 1 := ⟨fc - 1, by omega⟩
    obtain ⟨fm, rfl⟩ : ∃ x, fm = x + 1 := ⟨fm - 1, by omega⟩
    have hp := e.2.2.2.2.2.2
    have hn := e.1.1
    rcases test_s s sg43 J K G p g t e.1 e.2.1 hp with ⟨t1, p1, g1, q1, q2, q3, q4⟩ | ⟨t1, q4⟩
    · have e1 := ES_p e (show p ≤ p1 by omega) q2
      have nx := x_nxt (t := t) (w := -1) s e.1 (tS_le (b := b) hp)
      rw [← q3] at nx
      have c0 : tlS (fc + 1) (nI v) (cT h b n J F (tS b n p) t (-1)) = loS (fc + 1) (nI (v + 1)) (cT h b n J F (tS b n p1) t (-1)) := by
        unfold tlS F_X10_readSum_b62
        rw [t1, ob_s, cT_k, gd_d (k1 s), if_neg (by decide), nx, ob2_s, nS_1]
        rfl
      rw [c0]
      rcases part_nt s st p1 g1 J K G t e1 with ⟨f, q', J', t', K', G', p', a1, a2, a3⟩ | ⟨st', J', t', K', G', p', g', a1, a2, a3, a4⟩
      · left
        refine ⟨f, q', J', t', K', G', p', ?_, fun hM sM => ?_, WF_t r.2.1 a3⟩
        · exact loS_f (by rw [sL_eq (n400 (by omega)), partK_C, a1, ob2_s, if_pos rfl])
        · show ob (iter (fun z : Hp => lpM (F_X12_sign 59 43) (F_X12_readPart 59) 10 z) (fm + 1) (rfT hM K G p g)) endL = _
          have a2 : F_X12_readPart 59 (rfT hM K G p1 g1) = some (0, rfT hM K' G' p' f) := a2 hM sM
          rw [iter_r (x := .inr (rfT hM K' G' p' f)) (by
            show lpM _ _ 10 _ = _
            unfold lpM
            rw [q4 hM sM, ob2_s, m_k, gd_d (k59 sM), if_neg (by decide), a2, ob2_s, m_k, gd_d (k59 sM), if_pos rfl]), ob_s]
          rfl
      · have e2 := ES_TR e1 a4 a3
        have lt := e2.2.2.2.2.2.1
        have lt2 := a4.1.2.2
        have pu := x_cput (b := b) (n := n) (F := F) (q := tS b n p') (t := t') (w := -1) s e2.2.2.1 (show st' + i < 400 by omega) (-1)
        have r3 := TR_op (ty := false) (k := 10) r q1 a4 (by omega) (fun _ => rfl)
        rw [show cod 10 0 = -1 by decide] at r3
        have rl := a4.1.2.1
        have el := e.2.2.2.2.2.1
        have e3 : ES b n F i d (st' + 1) p' (pJ J' (st' + i) (-1)) (eK K' st' 10 0) (eG G' st') := ES_put e2 (by omega)
        have v0 : ¬ nI (v + 1) ≤ (0 : Int32) := by
          have x : ¬ nI (v + 1) ≤ nI 0 := nI_ge (Nat.succ_pos v) (by omega)
          exact x
        have c1 : loS (fc + 1) (nI (v + 1)) (cT h b n J F (tS b n p1) t (-1)) = tlS fc (nI (v + 1)) (cT h b n (pJ J' (st' + i) (-1)) F (tS b n p') t' (-1)) := loS_t (by
          rw [sL_eq (n400 (by omega)), partK_C, a1, ob2_s, if_neg (by decide), if_neg v0, pu, ob2_s, cT_k, gd_d (k38 s).1])
        have c2 : ∀ hM, Sh hM → iter (fun z : Hp => lpM (F_X12_sign 59 43) (F_X12_readPart 59) 10 z) (fm + 1) (rfT hM K G p g) = iter (fun z : Hp => lpM (F_X12_sign 59 43) (F_X12_readPart 59) 10 z) fm (rfT hM (eK K' st' 10 0) (eG G' st') p' g') := fun hM sM => iter_l (by
          have a2 : F_X12_readPart 59 (rfT hM K G p1 g1) = some (1, rfT hM K' G' p' g') := a2 hM sM
          show lpM _ _ 10 _ = _
          unfold lpM
          rw [q4 hM sM, ob2_s, m_k, gd_d (k59 sM), if_neg (by decide), a2, ob2_s, m_k, gd_d (k59 sM), if_neg (by decide), m_emit sM e2.2.2.2.1 (by omega), ob2_s, m_k, gd_d (k59 sM)])
        rw [c1]
        rcases ih (st' + 1) p' g' _ _ _ t' (v + 1) fc fm (by omega) r3 e3 (by omega) (by omega) (by omega) with ⟨f, q', J2, t2, K2, G2, p2, b1, b2, b3⟩ | ⟨st2, J2, t2, K2, G2, p2, g2, b1, b2, b3, b4⟩
        · exact Or.inl ⟨f, q', J2, t2, K2, G2, p2, b1, fun hM sM => by
            show ob (iter (fun z : Hp => lpM (F_X12_sign 59 43) (F_X12_readPart 59) 10 z) (fm + 1) (rfT hM K G p g)) endL = _
            rw [c2 hM sM]
            exact b2 hM sM, b3⟩
        · exact Or.inr ⟨st2, J2, t2, K2, G2, p2, g2, b1, fun hM sM => by
            show ob (iter (fun z : Hp => lpM (F_X12_sign 59 43) (F_X12_readPart 59) 10 z) (fm + 1) (rfT hM K G p g)) endL = _
            rw [c2 hM sM]
            exact b2 hM sM, b3, b4⟩
    · exact sum_stop s r hp t1 q4
theorem sum_nt (s : Sh h) : NT h b n F i 30 false d (F_X10_readSum 38 1) (F_X12_readSum 59) := by
  have e0 : F_X12_readSum 59 = opM (F_X12_sign 59 43) (F_X12_readPart 59) 10 := rfl
  rw [e0]
  intro st p g J K G t e
  have hn := e.1.1
  have s0 : ∀ H : Hp, F_X10_readSum 38 1 H = loS (999999999 + 1) (nI 0) H := fun _ => rfl
  rw [s0]
  rcases part_nt s st p g J K G t e with ⟨f, q', J', t', K', G', p', a1, a2, a3⟩ | ⟨st', J', t', K', G', p', g', a1, a2, a3, a4⟩
  · left
    refine ⟨f, q', J', t', K', G', p', ?_, fun hM sM => ?_, a3⟩
    · exact loS_f (by rw [sL_eq (n400 (by omega)), partK_C, a1, ob2_s, if_pos rfl])
    · have a2 : F_X12_readPart 59 (rfT hM K G p g) = some (0, rfT hM K' G' p' f) := a2 hM sM
      show opM _ _ 10 (rfT hM K G p g) = _
      unfold opM
      rw [a2, ob2_s, m_k, gd_d (k59 sM), if_pos rfl]
  · have e2 := ES_TR e a4 a3
    have key := sum_l s (n - p') st' p' g' J' K' G' t' 0 999999999 FU (Nat.le_refl _) (TR_b a4 (by omega)) e2 (by have := e2.2.2.2.2.2.1; omega) (by omega) (FU_lt (by omega))
    have c1 : loS (999999999 + 1) (nI 0) (cT h b n J F (tS b n p) t (-1)) = tlS 999999999 (nI 0) (cT h b n J' F (tS b n p') t' (-1)) := loS_t (by
      rw [sL_eq (n400 (by omega)), partK_C, a1, ob2_s, if_neg (by decide), if_pos (by decide)])
    have c2 : ∀ hM, Sh hM → opM (F_X12_sign 59 43) (F_X12_readPart 59) 10 (rfT hM K G p g) = ob (iter (fun z : Hp => lpM (F_X12_sign 59 43) (F_X12_readPart 59) 10 z) FU (rfT hM K' G' p' g')) endL := fun hM sM => by
      have a2 : F_X12_readPart 59 (rfT hM K G p g) = some (1, rfT hM K' G' p' g') := a2 hM sM
      unfold opM
      rw [a2, ob2_s, m_k, gd_d (k59 sM), if_neg (by decide)]
    rw [c1]
    rcases key with ⟨f, q', J2, t2, K2, G2, p2, b1, b2, b3⟩ | ⟨st2, J2, t2, K2, G2, p2, g2, b1, b2, b3, b4⟩
    · exact Or.inl ⟨f, q', J2, t2, K2, G2, p2, b1, fun hM sM => (c2 hM sM).trans (b2 hM sM), b3⟩
    · exact Or.inr ⟨st2, J2, t2, K2, G2, p2, g2, b1, fun hM sM => (c2 hM sM).trans (b2 hM sM), b3, b4⟩
/-- the reference's comparison -/
def cmM (rc : Nat → Nat → Hp → Option (Int32 × Hp)) (h24 : Hp) : Option (Int32 × Hp) :=
  ob2 (F_X12_readSum 59 h24) fun r27 h28 => gd (decide (kd h24 59 = 11)) <| (if r27 = 0 then some ((0 : Int32), h28) else ob2 (F_X12_sign 59 (60 : Int32) h28) fun r31 h32 => gd (decide (kd h28 59 = 11)) <| (if r31 = 0 then ob2 (F_X12_sign 59 (62 : Int32) h32) fun r45 h46 => gd (decide (kd h32 59 = 11)) <| (if r45 = 0 then F_X12_readAtom_b221 rc h46 else F_X12_readAtom_b214 rc 59 r31 h46) else F_X12_readAtom_b214 rc 59 r31 h32))
/-- from the sign on -/
theorem cm_2 (s : Sh h) {st p st1 p1 p2 g2 : Nat} {J K J1 K1 : Nat → Nat → Int32} {G G1 : Nat → Int32} {t : Int32} (e : ES b n F i d st p J K G) (r1 : TR i 30 false d st p J K G st1 p1 J1 K1 G1) (hp1 : p1 ≤ n) (h12 : p1 < p2) (hp2 : p2 ≤ n) (eq : tS b n p2 = tN b n (tS b n p1)) {rc : Nat → Nat → Hp → Option (Int32 × Hp)} {less k op : Int32} (hlk : (less = 1 ∧ k = 11 ∧ op = -2) ∨ (less = 0 ∧ k = 12 ∧ op = -3)) : WO h b n F i 29 true d st p J K G (F_X10_readComparison_b35 38 1 less (cT h b n J1 F (tS b n p1) t (-1))) (fun hM => F_X12_readAtom_b214 rc 59 less (rfT hM K1 G1 p2 g2)) := by
  have e1 := ES_TR e r1 hp1
  have hn := e.1.1
  have e2 := ES_p e1 (show p1 ≤ p2 by omega) hp2
  have nx := x_nxt (t := t) (w := -1) s e1.1 (tS_le (b := b) hp1)
  rw [← eq] at nx
  have hc : cod k 0 = op := by rcases hlk with ⟨-, rfl, rfl⟩ | ⟨-, rfl, rfl⟩ <;> decide
  have ht : ∀ stk : List Bool, tyS k 0 (false :: false :: stk) = some (true :: stk) := by rcases hlk with ⟨-, rfl, -⟩ | ⟨-, rfl, -⟩ <;> exact fun _ => rfl
  rcases sum_nt s st1 p2 g2 J1 K1 G1 t e2 with ⟨f, q', J', t', K', G', p', a1, a2, a3⟩ | ⟨st', J', t', K', G', p', g', a1, a2, a3, a4⟩
  · left
    refine ⟨f, q', J', t', K', G', p', ?_, fun hM sM => ?_, WF_t r1.2.1 a3⟩
    · unfold F_X10_readComparison_b35
      rw [nx, ob2_s, cT_k, gd_d (k1 s), a1, ob2_s, cT_k, gd_d (k38 s).1, if_pos rfl]
      rfl
    · have a2 : F_X12_readSum 59 (rfT hM K1 G1 p2 g2) = some (0, rfT hM K' G' p' f) := a2 hM sM
      show F_X12_readAtom_b214 rc 59 less (rfT hM K1 G1 p2 g2) = _
      unfold F_X12_readAtom_b214
      rw [a2, ob2_s, m_k, gd_d (k59 sM), if_pos rfl]
      rfl
  · right
    have e3 := ES_TR e2 a4 a3
    have lt := e3.2.2.2.2.2.1
    have pu := x_cput (b := b) (n := n) (F := F) (q := tS b n p') (t := t') (w := -1) s e3.2.2.1 (show st' + i < 400 by omega) op
    have r3 := TR_op (TR_b r1 (show 29 ≤ 30 by omega)) h12 a4 (by omega) ht
    rw [hc] at r3
    refine ⟨st' + 1, pJ J' (st' + i) op, t', eK K' st' k 0, eG G' st', p', g', ?_, fun hM sM => ?_, a3, r3⟩
    · unfold F_X10_readComparison_b35
      rw [nx, ob2_s, cT_k, gd_d (k1 s), a1, ob2_s, cT_k, gd_d (k38 s).1, if_neg (by decide)]
      rcases hlk with ⟨rfl, rfl, rfl⟩ | ⟨rfl, rfl, rfl⟩
      · rw [if_neg (by decide)]
        unfold F_X10_readComparison_b59
        rw [pu, ob2_s, cT_k, gd_d (k38 s).1, if_neg (by decide)]
        rfl
      · rw [if_pos rfl]
        unfold F_X10_readComparison_b59
        rw [pu, ob2_s, cT_k, gd_d (k38 s).1, if_neg (by decide)]
        rfl
    · have a2 : F_X12_readSum 59 (rfT hM K1 G1 p2 g2) = some (1, rfT hM K' G' p' g') := a2 hM sM
      show F_X12_readAtom_b214 rc 59 less (rfT hM K1 G1 p2 g2) = _
      unfold F_X12_readAtom_b214
      rw [a2, ob2_s, m_k, gd_d (k59 sM), if_neg (by decide)]
      have em : F_X12_emits 59 k 0 (rfT hM K' G' p' g') = _ := m_emit sM e3.2.2.2.1 (show st' < 400 by omega) k 0
      rcases hlk with ⟨rfl, rfl, rfl⟩ | ⟨rfl, rfl, rfl⟩
      · rw [if_neg (by decide)]
        unfold F_X12_readAtom_b235
        rw [em, ob2_s, m_k, gd_d (k59 sM)]
      · rw [if_pos rfl]
        unfold F_X12_readAtom_b235
        rw [em, ob2_s, m_k, gd_d (k59 sM)]
theorem WO_c {B d st p : Nat} {ty : Bool} {J K : Nat → Nat → Int32} {G : Nat → Int32} {rc rc2 : Option (Int32 × Hp)} {rm rm2 : Hp → Option (Int32 × Hp)} (w : WO h b n F i B ty d st p J K G rc2 rm2) (e1 : rc = rc2) (e2 : ∀ hM, Sh hM → rm hM = rm2 hM) : WO h b n F i B ty d st p J K G rc rm := by
  subst e1
  rcases w with ⟨f, q', J', t', K', G', p', a1, a2, a3⟩ | ⟨st', J', t', K', G', p', g', a1, a2, a3, a4⟩
  · exact Or.inl ⟨f, q', J', t', K', G', p', a1, fun hM sM => (e2 hM sM).trans (a2 hM sM), a3⟩
  · exact Or.inr ⟨st', J', t', K', G', p', g', a1, fun hM sM => (e2 hM sM).trans (a2 hM sM), a3, a4⟩
theorem cm_nt (s : Sh h) (rc : Nat → Nat → Hp → Option (Int32 × Hp)) : NT h b n F i 29 true d (F_X10_readComparison 38 1) (cmM rc) := by
  intro st p g J K G t e
  have hn := e.1.1
  rcases sum_nt s st p g J K G t e with ⟨f, q', J', t', K', G', p', a1, a2, a3⟩ | ⟨st1, J1, t1, K1, G1, p1, g1, a1, a2, hp1, r1⟩
  · left
    refine ⟨f, q', J', t', K', G', p', ?_, fun hM sM => ?_, a3⟩
    · unfold F_X10_readComparison F_X10_readComparison_b0
      rw [a1, ob2_s, cT_k, gd_d (k38 s).1, if_pos rfl]
    · have a2 : F_X12_readSum 59 (rfT hM K G p g) = some (0, rfT hM K' G' p' f) := a2 hM sM
      show cmM rc (rfT hM K G p g) = _
      unfold cmM
      rw [a2, ob2_s, m_k, gd_d (k59 sM), if_pos rfl]
  · have e1 := ES_TR e r1 hp1
    have tc := e1.1
    have tm := e1.2.1
    have hq := tS_le (b := b) hp1
    have hg := tS_ge (b := b) (n := n) p1
    have id0 := tS_idem (b := b) hp1
    have a2' : ∀ hM, Sh hM → F_X12_readSum 59 (rfT hM K G p g) = some (1, rfT hM K1 G1 p1 g1) := a2
    by_cases c1 : tS b n p1 < n ∧ b (tS b n p1) = 60
    · have eN : tS b n (tS b n p1 + 1) = tN b n (tS b n p1) := by
        unfold tN
        rw [tE_3 sg60.1 sg60.2 c1.1 c1.2]
      refine WO_c (cm_2 (p2 := tS b n p1 + 1) (g2 := tS b n p1) (rc := rc) (t := t1) s e r1 hp1 (by omega) (by omega) eN (Or.inl ⟨rfl, rfl, rfl⟩)) ?_ (fun hM sM => ?_)
      · unfold F_X10_readComparison F_X10_readComparison_b0
        rw [a1, ob2_s, cT_k, gd_d (k38 s).1, if_neg (by decide), x_isS1 s tc sg60 hq c1, ob_s, cT_k, gd_d (k1 s), if_neg (by decide)]
      · show cmM rc (rfT hM K G p g) = _
        unfold cmM
        rw [a2' hM sM, ob2_s, m_k, gd_d (k59 sM), if_neg (by decide), m_sign1 sM tm hp1 c1, ob2_s, m_k, gd_d (k59 sM), if_neg (by decide)]
    · by_cases c2 : tS b n p1 < n ∧ b (tS b n p1) = 62
      · have eN : tS b n (tS b n p1 + 1) = tN b n (tS b n p1) := by
          unfold tN
          rw [tE_3 sg62.1 sg62.2 c2.1 c2.2]
        refine WO_c (cm_2 (p2 := tS b n p1 + 1) (g2 := tS b n p1) (rc := rc) (t := t1) s e r1 hp1 (by omega) (by omega) eN (Or.inr ⟨rfl, rfl, rfl⟩)) ?_ (fun hM sM => ?_)
        · unfold F_X10_readComparison F_X10_readComparison_b0
          rw [a1, ob2_s, cT_k, gd_d (k38 s).1, if_neg (by decide), x_isS0 s tc sg60 hq c1, ob_s, cT_k, gd_d (k1 s), if_pos rfl, x_isS1 s tc sg62 hq c2, ob_s, if_neg (by decide)]
        · have c2' : tS b n (tS b n p1) < n ∧ b (tS b n (tS b n p1)) = 62 := by rw [id0]; exact c2
          show cmM rc (rfT hM K G p g) = _
          unfold cmM
          rw [a2' hM sM, ob2_s, m_k, gd_d (k59 sM), if_neg (by decide), m_sign0 sM tm hp1 c1, ob2_s, m_k, gd_d (k59 sM), if_pos rfl, m_sign1 sM tm hq c2', ob2_s, m_k, gd_d (k59 sM), if_neg (by decide), id0]
      · left
        refine ⟨tS b n p1, tS b n p1, J1, t1, K1, G1, tS b n p1, ?_, fun hM sM => ?_, r1.2.1⟩
        · unfold F_X10_readComparison F_X10_readComparison_b0
          rw [a1, ob2_s, cT_k, gd_d (k38 s).1, if_neg (by decide), x_isS0 s tc sg60 hq c1, ob_s, cT_k, gd_d (k1 s), if_pos rfl, x_isS0 s tc sg62 hq c2, ob_s, if_pos rfl, x_refuse s, ob2_s, gd_d (Or.inl rfl)]
        · have c2' : ¬ (tS b n (tS b n p1) < n ∧ b (tS b n (tS b n p1)) = 62) := by rw [id0]; exact c2
          show cmM rc (rfT hM K G p g) = _
          unfold cmM
          rw [a2' hM sM, ob2_s, m_k, gd_d (k59 sM), if_neg (by decide), m_sign0 sM tm hp1 c1, ob2_s, m_k, gd_d (k59 sM), if_pos rfl, m_sign0 sM tm hq c2', ob2_s, m_k, gd_d (k59 sM), if_pos rfl, id0]
          rfl
end WCMP
