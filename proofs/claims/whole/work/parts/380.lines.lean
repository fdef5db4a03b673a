/-! TEXTS: line by line, both sides -/
section LINES
variable {h : Hp} {b : Nat → Int32} {n : Nat} {F : Nat → Int32}
/-- the class's loop over lines, whatever a line is -/
def lnC (v0 kc : Nat) (RLC : Hp → Option (Int32 × Hp)) (v3 v4 : Int32) (h : Hp) : Option ((Int32 × Hp) ⊕ (Hp ⊕ (Hp ⊕ (Hp ⊕ Hp)))) :=
  (if v3 ≤ v4 then some (.inr (.inl h)) else ob2 (RLC h) fun r10 h11 => gd (decide (kd h v0 = kc)) <| (if r10 = 0 then some (.inr (.inr (.inl h11))) else gd (decide (kd h11 v0 = kc)) <| ob (F_X6_hasMore 1 (setI h11 v0 0 ((zI h11 v0 0) + (1 : Int32)))) fun r15 => gd (decide (kd (setI h11 v0 0 ((zI h11 v0 0) + (1 : Int32))) 1 = 6)) <| (if r15 = 0 then some (.inr (.inr (.inr (.inl (setI h11 v0 0 ((zI h11 v0 0) + (1 : Int32))))))) else ob2 (F_X6_takeSign 1 (59 : Int32) (setI h11 v0 0 ((zI h11 v0 0) + (1 : Int32)))) fun r18 h19 => (if r18 = 0 then some (.inr (.inr (.inr (.inr h19)))) else some (.inl (v4 + (1 : Int32), h19))))))
def fnC (z : Hp ⊕ (Hp ⊕ (Hp ⊕ Hp))) : Option (Int32 × Hp) := sm z (fun h24 => ob2 (F_X6_refuse 1 h24) fun r26 h27 => gd (decide (kd h24 1 = 6)) <| gd (decide (r26 = 0 ∨ r26 = 1)) <| some (r26, h27)) (fun z => sm z (fun h30 => some ((0 : Int32), h30)) (fun z => sm z (fun h31 => some ((1 : Int32), h31)) (fun h32 => some ((0 : Int32), h32))))
def fnM (z : Hp ⊕ ((Int32 × Hp) ⊕ Hp)) : Option (Int32 × Hp) := sm z (fun h20 => some ((-1 : Int32), h20)) (fun z => sm z (fun z => un2 z fun w21 h22 => some (w21 + (1 : Int32), h22)) (fun h23 => some ((-1 : Int32), h23)))
abbrev RT := Nat → (Nat → Nat → Int32) → (Nat → Nat → Int32) → (Nat → Int32) → Prop
abbrev RTF := (Nat → Nat → Int32) → (Nat → Nat → Int32) → (Nat → Int32) → Prop
/-- a line, read on both sides -/
def LineOk (h : Hp) (b : Nat → Int32) (n : Nat) (F : Nat → Int32) (RLC : Hp → Option (Int32 × Hp)) (RM : Int32 → Hp → Option (Int32 × Hp)) (most v0 : Nat) (Rel : RT) (RelF : RTF) : Prop :=
  ∀ i q J K G t, i < most → q ≤ n → tS b n q = q → Rel i J K G →
  (∃ f q' J' t' K' G' p', RLC (cT h b n J F q t (-1)) = some (0, cT h b n J' F q' t' (nI f)) ∧ (∀ hM, Sh hM → RM (nI i) (rfT hM K G (tW b n q) q) = some (0, rfT hM K' G' p' f)) ∧ RelF J' K' G') ∨
  (∃ q' J' t' K' G' p' g', RLC (cT h b n J F q t (-1)) = some (1, cT h b n J' F q' t' (-1)) ∧ (∀ hM, Sh hM → RM (nI i) (rfT hM K G (tW b n q) q) = some (1, rfT hM K' G' p' g')) ∧ p' ≤ n ∧ tS b n p' = q' ∧ TC b n J' F ∧ TM b n K' G' ∧ J' v0 0 = nI i ∧ Rel (i + 1) (up2 J' v0 0 (nI (i + 1))) K' G')
/-- the reference's line is this sort's line -/
def SortOk (v1 : Int32) (RM : Int32 → Hp → Option (Int32 × Hp)) (most : Nat) : Prop := ∀ hM, Sh hM → ∀ b n K G p g i, TM b n K G → p ≤ n → i ≤ most → (i = most → F_X12_readLine 59 v1 (nI i) (rfT hM K G p g) = some (0, rfT hM K G (tW b n (tS b n p)) (tS b n p))) ∧ (i < most → ∀ r h', RM (nI i) (rfT hM K G (tW b n (tS b n p)) (tS b n p)) = some (r, h') → (r = 0 ∨ r = 1) → F_X12_readLine 59 v1 (nI i) (rfT hM K G p g) = some (r, h'))
theorem iter_l {S X : Type} {body : S → Option (S ⊕ X)} {s s' : S} {f : Nat} (e : body s = some (.inl s')) : iter body (f + 1) s = iter body f s' := by
  show (match body s with
    | none => none
    | some (.inl s') => iter body f s'
    | some (.inr x) => some x) = _
  rw [e]
theorem iter_r {S X : Type} {body : S → Option (S ⊕ X)} {s : S} {x : X} {f : Nat} (e : body s = some (.inr x)) : iter body (f + 1) s = some x := by
  show (match body s with
    | none => none
    | some (.inl s') => iter body f s'
    | some (.inr x) => some x) = _
  rw [e]
theorem sg59 : sgn 59 := by unfold sgn; decide
theorem cT_k {J : Nat → Nat → Int32} {q : Nat} {t w : Int32} (a : Nat) : kd (cT h b n J F q t w) a = kd h a := rfl
theorem cT_seta {J : Nat → Nat → Int32} {q : Nat} {t w : Int32} {a : Nat} (k : Nat) (v : Int32) (ha : a ≠ 1) : setI (cT h b n J F q t w) a k v = cT h b n (up2 J a k v) F q t w := cS_seta k v ha
theorem cT_a {J : Nat → Nat → Int32} {q : Nat} {t w : Int32} {a : Nat} (k : Nat) (ha : a ≠ 1) : zI (cT h b n J F q t w) a k = J a k := cS_a k ha
theorem TC_up {J : Nat → Nat → Int32} (c : TC b n J F) {a k : Nat} {v : Int32} (h2 : a ≠ 2) : TC b n (up2 J a k v) F := ⟨c.1, c.2.1, fun j hj => by rw [up2_a _ _ _ _ _ (fun e => h2 e.symm)]; exact c.2.2 j hj⟩
theorem lines_joint (s : Sh h) {v0 kc most : Nat} {v1 : Int32} {RLC : Hp → Option (Int32 × Hp)} {RM : Int32 → Hp → Option (Int32 × Hp)} {Rel : RT} {RelF : RTF} (hn : n ≤ 400) (hv1 : v0 ≠ 1) (hv2 : v0 ≠ 2) (hk : kd h v0 = kc) (hmost : most < 100) (HL : LineOk h b n F RLC RM most v0 Rel RelF) (HS : SortOk v1 RM most) (hRel : ∀ i J K G, Rel i J K G → TC b n J F ∧ TM b n K G ∧ RelF J K G) (hRF : ∀ i J K G, Rel i J K G → RelF J K G) :
    ∀ m i p g J K G t fc fm, i + m = most → m < fc → m < fm → p ≤ n → Rel i J K G →
    (∃ f q' J' t' K' G' p', ob (iter (fun z : Int32 × Hp => lnC v0 kc RLC (nI most) z.1 z.2) fc (nI i, cT h b n J F (tS b n p) t (-1))) fnC = some (0, cT h b n J' F q' t' (nI f)) ∧ (∀ hM, Sh hM → ob (iter (fun z : Int32 × Hp => F_X12_readAll_l42 59 v1 z.1 z.2) fm (nI i, rfT hM K G p g)) fnM = some (-1, rfT hM K' G' p' f)) ∧ RelF J' K' G') ∨
    (∃ i' q' J' t' K' G' p' g', ob (iter (fun z : Int32 × Hp => lnC v0 kc RLC (nI most) z.1 z.2) fc (nI i, cT h b n J F (tS b n p) t (-1))) fnC = some (1, cT h b n J' F q' t' (-1)) ∧ (∀ hM, Sh hM → ob (iter (fun z : Int32 × Hp => F_X12_readAll_l42 59 v1 z.1 z.2) fm (nI i, rfT hM K G p g)) fnM = some (nI i', rfT hM K' G' p' g')) ∧ i' ≤ most ∧ Rel i' J' K' G') := by
  intro m
  induction m with
  | zero =>
    intro i p g J K G t fc fm him hfc hfm hp rel
    obtain ⟨tc, tm, rf⟩ := hRel _ _ _ _ rel
    left
    obtain ⟨fc, rfl⟩ : ∃ x, fc = x + 1 := ⟨fc - 1, by omega⟩
    obtain ⟨fm, rfl⟩ : ∃ x, fm = x + 1 := ⟨fm - 1, by omega⟩
    refine ⟨tS b n p, tS b n p, J, t, K, G, tW b n (tS b n p), ?_, fun hM sM => ?_, rf⟩
    · rw [iter_r (x := .inl (cT h b n J F (tS b n p) t (-1))) (by
        show lnC v0 kc RLC (nI most) (nI i) _ = _
        unfold lnC
        rw [if_pos (nI_le (by omega) (by omega))]), ob_s]
      unfold fnC
      rw [sm_l, x_refuse s, ob2_s, cT_k, gd_d (k1 s), gd_d (Or.inl rfl)]
    · have e := (HS hM sM b n K G p g i tm hp (by omega)).1 (by omega)
      rw [iter_r (x := .inl (rfT hM K G (tW b n (tS b n p)) (tS b n p))) (by
        show F_X12_readAll_l42 59 v1 (nI i) _ = _
        unfold F_X12_readAll_l42
        rw [e, ob2_s, m_k, gd_d (k59 sM), if_pos rfl]), ob_s]
      rfl
  | succ m ih =>
    intro i p g J K G t fc fm him hfc hfm hp rel
    obtain ⟨tc, tm, rf⟩ := hRel _ _ _ _ rel
    obtain ⟨fc, rfl⟩ : ∃ x, fc = x + 1 := ⟨fc - 1, by omega⟩
    obtain ⟨fm, rfl⟩ : ∃ x, fm = x + 1 := ⟨fm - 1, by omega⟩
    have hb : ¬ nI most ≤ nI i := nI_ge (by omega) (by omega)
    rcases HL i (tS b n p) J K G t (by omega) (tS_le hp) (tS_idem hp) rel with ⟨f, q', J', t', K', G', p', l1, l2, l3⟩ | ⟨q', J', t', K', G', p', g', l1, l2, l3, l4, l5, l6, l7, l8⟩
    · left
      refine ⟨f, q', J', t', K', G', p', ?_, fun hM sM => ?_, l3⟩
      · rw [iter_r (x := .inr (.inl (cT h b n J' F q' t' (nI f)))) (by
          show lnC v0 kc RLC (nI most) (nI i) _ = _
          unfold lnC
          rw [if_neg hb, l1, ob2_s, cT_k, gd_d hk, if_pos rfl]), ob_s]
        rfl
      · have e := (HS hM sM b n K G p g i tm hp (by omega)).2 (by omega) _ _ (l2 hM sM) (Or.inl rfl)
        rw [iter_r (x := .inl (rfT hM K' G' p' f)) (by
          show F_X12_readAll_l42 59 v1 (nI i) _ = _
          unfold F_X12_readAll_l42
          rw [e, ob2_s, m_k, gd_d (k59 sM), if_pos rfl]), ob_s]
        rfl
    · subst l4
      have hq := tS_le (b := b) l3
      have tc2 : TC b n (up2 J' v0 0 (nI (i + 1))) F := TC_up l5 hv2
      have eset : ∀ w, setI (cT h b n J' F (tS b n p') t' w) v0 0 (zI (cT h b n J' F (tS b n p') t' w) v0 0 + 1) = cT h b n (up2 J' v0 0 (nI (i + 1))) F (tS b n p') t' w := fun w => by
        rw [cT_a _ hv1, l7, nl_1, nadd, cT_seta _ _ hv1]
      have e8 : ∀ hM, zI (rfT hM K' G' (tS b n p') (tS b n p')) 59 8 = nI n := fun hM => m_r8.trans l6.2.1
      by_cases en : tS b n p' = n
      · right
        refine ⟨i + 1, tS b n p', up2 J' v0 0 (nI (i + 1)), t', K', G', tS b n p', tS b n p', ?_, fun hM sM => ?_, by omega, l8⟩
        · rw [iter_r (x := .inr (.inr (.inl (cT h b n (up2 J' v0 0 (nI (i + 1))) F (tS b n p') t' (-1))))) (by
            show lnC v0 kc RLC (nI most) (nI i) _ = _
            unfold lnC
            rw [if_neg hb, l1, ob2_s, cT_k, gd_d hk, if_neg (by decide), cT_k, gd_d hk, eset, x_more s hq hn, ob_s, cT_k, gd_d (k1 s), if_pos en, if_pos rfl]), ob_s]
          rfl
        · have e := (HS hM sM b n K G p g i tm hp (by omega)).2 (by omega) _ _ (l2 hM sM) (Or.inr rfl)
          rw [iter_r (x := .inr (.inl (nI i, rfT hM K' G' (tS b n p') (tS b n p')))) (by
            show F_X12_readAll_l42 59 v1 (nI i) _ = _
            unfold F_X12_readAll_l42
            rw [e, ob2_s, m_k, gd_d (k59 sM), if_neg (by decide), m_blanks sM l6 l3, ob2_s, m_k, gd_d (k59 sM), m_k, gd_d (k59 sM), m_r7, e8, if_pos (by rw [en])]), ob_s]
          show some (nI i + 1, _) = _
          rw [nl_1, nadd]
      · have nen : ¬ nI (tS b n p') = nI n := fun x => en ((nI_eq (by omega) (by omega)).mp x)
        by_cases ec : b (tS b n p') = 59
        · have ec2 : tS b n p' < n ∧ b (tS b n p') = 59 := ⟨by omega, ec⟩
          have eq := eq_n.mp ec
          have eN : tN b n (tS b n p') = tS b n (tS b n p' + 1) := by
            unfold tN
            rw [tE_3 sg59.1 sg59.2 ec2.1 ec2.2]
          have c1 : iter (fun z : Int32 × Hp => lnC v0 kc RLC (nI most) z.1 z.2) (fc + 1) (nI i, cT h b n J F (tS b n p) t (-1)) = iter (fun z : Int32 × Hp => lnC v0 kc RLC (nI most) z.1 z.2) fc (nI (i + 1), cT h b n (up2 J' v0 0 (nI (i + 1))) F (tS b n (tS b n p' + 1)) t' (-1)) := iter_l (by
            show lnC v0 kc RLC (nI most) (nI i) _ = _
            unfold lnC
            rw [if_neg hb, l1, ob2_s, cT_k, gd_d hk, if_neg (by decide), cT_k, gd_d hk, eset, x_more s hq hn, ob_s, cT_k, gd_d (k1 s), if_neg en, if_neg (by decide), x_takeS1 s tc2 sg59 hq ec2, ob2_s, if_neg (by decide), nl_1, nadd, eN])
          have c2 : ∀ hM, Sh hM → iter (fun z : Int32 × Hp => F_X12_readAll_l42 59 v1 z.1 z.2) (fm + 1) (nI i, rfT hM K G p g) = iter (fun z : Int32 × Hp => F_X12_readAll_l42 59 v1 z.1 z.2) fm (nI (i + 1), rfT hM K' G' (tS b n p' + 1) (tS b n p')) := fun hM sM => iter_l (by
            have e := (HS hM sM b n K G p g i tm hp (by omega)).2 (by omega) _ _ (l2 hM sM) (Or.inr rfl)
            show F_X12_readAll_l42 59 v1 (nI i) _ = _
            unfold F_X12_readAll_l42
            rw [e, ob2_s, m_k, gd_d (k59 sM), if_neg (by decide), m_blanks sM l6 l3, ob2_s, m_k, gd_d (k59 sM), m_k, gd_d (k59 sM), m_r7, e8, if_neg nen, m_at1 sM l6 ec2.1 eq.1 eq.2, ob_s, if_neg (by decide), nl_1, nadd, nadd, m_s7])
          rcases ih (i + 1) (tS b n p' + 1) (tS b n p') _ K' G' t' fc fm (by omega) (by omega) (by omega) (by omega) l8 with ⟨f, q', J2, t2, K2, G2, p2, a1, a2, a3⟩ | ⟨i', q', J2, t2, K2, G2, p2, g2, a1, a2, a3, a4⟩
          · left
            refine ⟨f, q', J2, t2, K2, G2, p2, ?_, fun hM sM => ?_, a3⟩
            · rw [c1]
              exact a1
            · rw [c2 hM sM]
              exact a2 hM sM
          · right
            refine ⟨i', q', J2, t2, K2, G2, p2, g2, ?_, fun hM sM => ?_, a3, a4⟩
            · rw [c1]
              exact a1
            · rw [c2 hM sM]
              exact a2 hM sM
        · have ec2 : ¬ (tS b n p' < n ∧ b (tS b n p') = 59) := fun x => ec x.2
          left
          refine ⟨tS b n p', tS b n p', up2 J' v0 0 (nI (i + 1)), t', K', G', tS b n p', ?_, fun hM sM => ?_, hRF _ _ _ _ l8⟩
          · rw [iter_r (x := .inr (.inr (.inr (cT h b n (up2 J' v0 0 (nI (i + 1))) F (tS b n p') t' (nI (tS b n p')))))) (by
              show lnC v0 kc RLC (nI most) (nI i) _ = _
              unfold lnC
              rw [if_neg hb, l1, ob2_s, cT_k, gd_d hk, if_neg (by decide), cT_k, gd_d hk, eset, x_more s hq hn, ob_s, cT_k, gd_d (k1 s), if_neg en, if_neg (by decide), x_takeS0 s tc2 sg59 hq ec2, ob2_s, if_pos rfl]), ob_s]
            rfl
          · have e := (HS hM sM b n K G p g i tm hp (by omega)).2 (by omega) _ _ (l2 hM sM) (Or.inr rfl)
            rw [iter_r (x := .inr (.inr (rfT hM K' G' (tS b n p') (tS b n p')))) (by
              show F_X12_readAll_l42 59 v1 (nI i) _ = _
              unfold F_X12_readAll_l42
              rw [e, ob2_s, m_k, gd_d (k59 sM), if_neg (by decide), m_blanks sM l6 l3, ob2_s, m_k, gd_d (k59 sM), m_k, gd_d (k59 sM), m_r7, e8, if_neg nen, m_at0 sM l6 hq (fun x => ec2 ⟨x.1, eq_n.mpr x.2⟩), ob_s, if_pos rfl]), ob_s]
            rfl
end LINES
