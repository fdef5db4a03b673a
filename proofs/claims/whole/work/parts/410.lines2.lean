/-! TEXTS: line by line, both sides, where the relation knows how far the text is read -/
section LINES2
variable {h : Hp} {b : Nat → Int32} {n : Nat} {F : Nat → Int32}
abbrev RT2 := Nat → Nat → (Nat → Nat → Int32) → (Nat → Nat → Int32) → (Nat → Int32) → Prop
/-- a line, read on both sides -/
def LineOk2 (h : Hp) (b : Nat → Int32) (n : Nat) (F : Nat → Int32) (RLC : Hp → Option (Int32 × Hp)) (RM : Int32 → Hp → Option (Int32 × Hp)) (most v0 : Nat) (Rel : RT2) (RelF : RTF) : Prop :=
  ∀ i q J K G t, i < most → q ≤ n → tS b n q = q → Rel i q J K G →
  (∃ f q' J' t' K' G' p', RLC (cT h b n J F q t (-1)) = some (0, cT h b n J' F q' t' (nI f)) ∧ (∀ hM, Sh hM → RM (nI i) (rfT hM K G (tW b n q) q) = some (0, rfT hM K' G' p' f)) ∧ RelF J' K' G') ∨
  (∃ q' J' t' K' G' p' g', RLC (cT h b n J F q t (-1)) = some (1, cT h b n J' F q' t' (-1)) ∧ (∀ hM, Sh hM → RM (nI i) (rfT hM K G (tW b n q) q) = some (1, rfT hM K' G' p' g')) ∧ p' ≤ n ∧ tS b n p' = q' ∧ TC b n J' F ∧ TM b n K' G' ∧ J' v0 0 = nI i ∧ Rel (i + 1) p' (up2 J' v0 0 (nI (i + 1))) K' G')
theorem lines_joint2 (s : Sh h) {v0 kc most : Nat} {v1 : Int32} {RLC : Hp → Option (Int32 × Hp)} {RM : Int32 → Hp → Option (Int32 × Hp)} {Rel : RT2} {RelF : RTF} (hn : n ≤ 400) (hv1 : v0 ≠ 1) (hv2 : v0 ≠ 2) (hk : kd h v0 = kc) (hmost : most < 100) (HL : LineOk2 h b n F RLC RM most v0 Rel RelF) (HS : SortOk v1 RM most) (hRel : ∀ i x J K G, Rel i x J K G → TC b n J F ∧ TM b n K G ∧ RelF J K G) (hmono : ∀ i x y J K G, Rel i x J K G → x ≤ y → Rel i y J K G) :
    ∀ m i p g J K G t fc fm, i + m = most → m < fc → m < fm → p ≤ n → Rel i (tS b n p) J K G →
    (∃ f q' J' t' K' G' p', ob (iter (fun z : Int32 × Hp => lnC v0 kc RLC (nI most) z.1 z.2) fc (nI i, cT h b n J F (tS b n p) t (-1))) fnC = some (0, cT h b n J' F q' t' (nI f)) ∧ (∀ hM, Sh hM → ob (iter (fun z : Int32 × Hp => F_X12_readAll_l42 59 v1 z.1 z.2) fm (nI i, rfT hM K G p g)) fnM = some (-1, rfT hM K' G' p' f)) ∧ RelF J' K' G') ∨
    (∃ i' q' J' t' K' G' p' g', ob (iter (fun z : Int32 × Hp => lnC v0 kc RLC (nI most) z.1 z.2) fc (nI i, cT h b n J F (tS b n p) t (-1))) fnC = some (1, cT h b n J' F q' t' (-1)) ∧ (∀ hM, Sh hM → ob (iter (fun z : Int32 × Hp => F_X12_readAll_l42 59 v1 z.1 z.2) fm (nI i, rfT hM K G p g)) fnM = some (nI i', rfT hM K' G' p' g')) ∧ i' ≤ most ∧ ∃ x, Rel i' x J' K' G') := by
  intro m
  induction m with
  | zero =>
    intro i p g J K G t fc fm him hfc hfm hp rel
    obtain ⟨tc, tm, rf⟩ := hRel _ _ _ _ _ rel
    left
    obtain ⟨fc, rfl⟩ : ∃ x, fc = x + 1 := ⟨fc - 1, by omega⟩
    obtain ⟨fm, rfl⟩ : ∃ x, fm = x + 1 := ⟨fm - 1, by omega⟩
    refine ⟨tS b n p, tS b n p, J, t, K, G, tW b n (tS b n p), ?_, fun hM sM => ?_, rf⟩
    · rw [iter_r (x := .inl (cT h b n J F (tS b n p) t (-1))) (by
        show lnC v0 kc RLC (nI most) (nI i) _ = _
        unfold lnC
        rw [if_pos (nI_le (by omega) (by omega))]), ob_s]
      unfold fnC
      rw [sm_l, x_refuse s, ob2_s, cT_k, gd_d (k1 s), gd_d (Or.inl rfl)]
    · have e := (HS hM sM b n K G p g i tm hp (by omega)).1 (by omega)
      rw [iter_r (x := .inl (rfT hM K G (tW b n (tS b n p)) (tS b n p))) (by
        show F_X12_readAll_l42 59 v1 (nI i) _ = _
        unfold F_X12_readAll_l42
        rw [e, ob2_s, m_k, gd_d (k59 sM), if_pos rfl]), ob_s]
      rfl
  | succ m ih =>
    intro i p g J K G t fc fm him hfc hfm hp rel
    obtain ⟨tc, tm, rf⟩ := hRel _ _ _ _ _ rel
    obtain ⟨fc, rfl⟩ : ∃ x, fc = x + 1 := ⟨fc - 1, by omega⟩
    obtain ⟨fm, rfl⟩ : ∃ x, fm = x + 1 := ⟨fm - 1, by omega⟩
    have hb : ¬ nI most ≤ nI i := nI_ge (by omega) (by omega)
    rcases HL i (tS b n p) J K G t (by omega) (tS_le hp) (tS_idem hp) rel with ⟨f, q', J', t', K', G', p', l1, l2, l3⟩ | ⟨q', J', t', K', G', p', g', l1, l2, l3, l4, l5, l6, l7, l8⟩
    · left
      refine ⟨f, q', J', t', K', G', p', ?_, fun hM sM => ?_, l3⟩
      · rw [iter_r (x := .inr (.inl (cT h b n J' F q' t' (nI f)))) (by
          show lnC v0 kc RLC (nI most) (nI i) _ = _
          unfold lnC
          rw [if_neg hb, l1, ob2_s, cT_k, gd_d hk, if_pos rfl]), ob_s]
        rfl
      · have e := (HS hM sM b n K G p g i tm hp (by omega)).2 (by omega) _ _ (l2 hM sM) (Or.inl rfl)
        rw [iter_r (x := .inl (rfT hM K' G' p' f)) (by
          show F_X12_readAll_l42 59 v1 (nI i) _ = _
          unfold F_X12_readAll_l42
          rw [e, ob2_s, m_k, gd_d (k59 sM), if_pos rfl]), ob_s]
        rfl
    · subst l4
      have hq := tS_le (b := b) l3
      have tc2 : TC b n (up2 J' v0 0 (nI (i + 1))) F := TC_up l5 hv2
      have eset : ∀ w, setI (cT h b n J' F (tS b n p') t' w) v0 0 (zI (cT h b n J' F (tS b n p') t' w) v0 0 + 1) = cT h b n (up2 J' v0 0 (nI (i + 1))) F (tS b n p') t' w := fun w => by
        rw [cT_a _ hv1, l7, nl_1, nadd, cT_seta _ _ hv1]
      have e8 : ∀ hM, zI (rfT hM K' G' (tS b n p') (tS b n p')) 59 8 = nI n := fun hM => m_r8.trans l6.2.1
      by_cases en : tS b n p' = n
      · right
        refine ⟨i + 1, tS b n p', up2 J' v0 0 (nI (i + 1)), t', K', G', tS b n p', tS b n p', ?_, fun hM sM => ?_, by omega, p', l8⟩
        · rw [iter_r (x := .inr (.inr (.inl (cT h b n (up2 J' v0 0 (nI (i + 1))) F (tS b n p') t' (-1))))) (by
            show lnC v0 kc RLC (nI most) (nI i) _ = _
            unfold lnC
            rw [if_neg hb, l1, ob2_s, cT_k, gd_d hk, if_neg (by decide), cT_k, gd_d hk, eset, x_more s hq hn, ob_s, cT_k, gd_d (k1 s), if_pos en, if_pos rfl]), ob_s]
          rfl
        · have e := (HS hM sM b n K G p g i tm hp (by omega)).2 (by omega) _ _ (l2 hM sM) (Or.inr rfl)
          rw [iter_r (x := .inr (.inl (nI i, rfT hM K' G' (tS b n p') (tS b n p')))) (by
            show F_X12_readAll_l42 59 v1 (nI i) _ = _
            unfold F_X12_readAll_l42
            rw [e, ob2_s, m_k, gd_d (k59 sM), if_neg (by decide), m_blanks sM l6 l3, ob2_s, m_k, gd_d (k59 sM), m_k, gd_d (k59 sM), m_r7, e8, if_pos (by rw [en])]), ob_s]
          show some (nI i + 1, _) = _
          rw [nl_1, nadd]
      · have nen : ¬ nI (tS b n p') = nI n := fun x => en ((nI_eq (by omega) (by omega)).mp x)
        by_cases ec : b (tS b n p') = 59
        · have ec2 : tS b n p' < n ∧ b (tS b n p') = 59 := ⟨by omega, ec⟩
          have eq := eq_n.mp ec
          have eN : tN b n (tS b n p') = tS b n (tS b n p' + 1) := by
            unfold tN
            rw [tE_3 sg59.1 sg59.2 ec2.1 ec2.2]
          have c1 : iter (fun z : Int32 × Hp => lnC v0 kc RLC (nI most) z.1 z.2) (fc + 1) (nI i, cT h b n J F (tS b n p) t (-1)) = iter (fun z : Int32 × Hp => lnC v0 kc RLC (nI most) z.1 z.2) fc (nI (i + 1), cT h b n (up2 J' v0 0 (nI (i + 1))) F (tS b n (tS b n p' + 1)) t' (-1)) := iter_l (by
            show lnC v0 kc RLC (nI most) (nI i) _ = _
            unfold lnC
            rw [if_neg hb, l1, ob2_s, cT_k, gd_d hk, if_neg (by decide), cT_k, gd_d hk, eset, x_more s hq hn, ob_s, cT_k, gd_d (k1 s), if_neg en, if_neg (by decide), x_takeS1 s tc2 sg59 hq ec2, ob2_s, if_neg (by decide), nl_1, nadd, eN])
          have c2 : ∀ hM, Sh hM → iter (fun z : Int32 × Hp => F_X12_readAll_l42 59 v1 z.1 z.2) (fm + 1) (nI i, rfT hM K G p g) = iter (fun z : Int32 × Hp => F_X12_readAll_l42 59 v1 z.1 z.2) fm (nI (i + 1), rfT hM K' G' (tS b n p' + 1) (tS b n p')) := fun hM sM => iter_l (by
            have e := (HS hM sM b n K G p g i tm hp (by omega)).2 (by omega) _ _ (l2 hM sM) (Or.inr rfl)
            show F_X12_readAll_l42 59 v1 (nI i) _ = _
            unfold F_X12_readAll_l42
            rw [e, ob2_s, m_k, gd_d (k59 sM), if_neg (by decide), m_blanks sM l6 l3, ob2_s, m_k, gd_d (k59 sM), m_k, gd_d (k59 sM), m_r7, e8, if_neg nen, m_at1 sM l6 ec2.1 eq.1 eq.2, ob_s, if_neg (by decide), nl_1, nadd, nadd, m_s7])
          rcases ih (i + 1) (tS b n p' + 1) (tS b n p') _ K' G' t' fc fm (by omega) (by omega) (by omega) (by omega) (hmono _ _ _ _ _ _ l8 (by have g1 : p' ≤ tS b n p' := tTo_ge isBl b n p'; have g2 : tS b n p' + 1 ≤ tS b n (tS b n p' + 1) := tTo_ge isBl b n _; omega)) with ⟨f, q', J2, t2, K2, G2, p2, a1, a2, a3⟩ | ⟨i', q', J2, t2, K2, G2, p2, g2, a1, a2, a3, a4⟩
          · left
            refine ⟨f, q', J2, t2, K2, G2, p2, ?_, fun hM sM => ?_, a3⟩
            · rw [c1]
              exact a1
            · rw [c2 hM sM]
              exact a2 hM sM
          · right
            refine ⟨i', q', J2, t2, K2, G2, p2, g2, ?_, fun hM sM => ?_, a3, a4⟩
            · rw [c1]
              exact a1
            · rw [c2 hM sM]
              exact a2 hM sM
        · have ec2 : ¬ (tS b n p' < n ∧ b (tS b n p') = 59) := fun x => ec x.2
          left
          refine ⟨tS b n p', tS b n p', up2 J' v0 0 (nI (i + 1)), t', K', G', tS b n p', ?_, fun hM sM => ?_, (hRel _ _ _ _ _ l8).2.2⟩
          · rw [iter_r (x := .inr (.inr (.inr (cT h b n (up2 J' v0 0 (nI (i + 1))) F (tS b n p') t' (nI (tS b n p')))))) (by
              show lnC v0 kc RLC (nI most) (nI i) _ = _
              unfold lnC
              rw [if_neg hb, l1, ob2_s, cT_k, gd_d hk, if_neg (by decide), cT_k, gd_d hk, eset, x_more s hq hn, ob_s, cT_k, gd_d (k1 s), if_neg en, if_neg (by decide), x_takeS0 s tc2 sg59 hq ec2, ob2_s, if_pos rfl]), ob_s]
            rfl
          · have e := (HS hM sM b n K G p g i tm hp (by omega)).2 (by omega) _ _ (l2 hM sM) (Or.inr rfl)
            rw [iter_r (x := .inr (.inr (rfT hM K' G' (tS b n p') (tS b n p')))) (by
              show F_X12_readAll_l42 59 v1 (nI i) _ = _
              unfold F_X12_readAll_l42
              rw [e, ob2_s, m_k, gd_d (k59 sM), if_neg (by decide), m_blanks sM l6 l3, ob2_s, m_k, gd_d (k59 sM), m_k, gd_d (k59 sM), m_r7, e8, if_neg nen, m_at0 sM l6 hq (fun x => ec2 ⟨x.1, eq_n.mpr x.2⟩), ob_s, if_pos rfl]), ob_s]
            rfl
theorem text_joint2 (s : Sh h) {v0 kc most : Nat} {v1 : Int32} {RLC : Hp → Option (Int32 × Hp)} {RM : Int32 → Hp → Option (Int32 × Hp)} {Rel : RT2} {RelF : RTF} {J K : Nat → Nat → Int32} {G : Nat → Int32} (tc : TC b n J F) (hG : G 6 = nI n) (hKb : ∀ k, k < 400 → K 63 k = b k) (hv1 : v0 ≠ 1) (hv2 : v0 ≠ 2) (hk : kd h v0 = kc) (hmost : most < 100) (HL : LineOk2 h b n F RLC RM most v0 Rel RelF) (HS : SortOk v1 RM most) (hRel : ∀ i x J K G, Rel i x J K G → TC b n J F ∧ TM b n K G ∧ RelF J K G) (hmono : ∀ i x y J K G, Rel i x J K G → x ≤ y → Rel i y J K G) (rel : Rel 0 0 (up2 J v0 0 0) K (gB G)) :
    (∃ f q' J' t' K' G' p', rlC v0 kc RLC (nI most) (cS h J F) = some (0, cT h b n J' F q' t' (nI f)) ∧ (∀ hM, Sh hM → F_X12_readAll 59 v1 (rfS hM K G) = some (-1, rfT hM K' G' p' f)) ∧ RelF J' K' G') ∨
    (∃ i' q' J' t' K' G' p' g', rlC v0 kc RLC (nI most) (cS h J F) = some (1, cT h b n J' F q' t' (-1)) ∧ (∀ hM, Sh hM → F_X12_readAll 59 v1 (rfS hM K G) = some (nI i', rfT hM K' G' p' g')) ∧ i' ≤ most ∧ ∃ x, Rel i' x J' K' G') := by
  have hn := tc.1
  have tc0 : TC b n (up2 J v0 0 0) F := TC_up tc hv2
  have tm : TM b n K (gB G) := ⟨hn, by unfold gB; rw [va_o _ _ (by decide), va_o _ _ (by decide), va_e]; exact hG, hKb⟩
  have hq := tS_le (b := b) (n := n) (p := 0) (by omega)
  have c0 : rlC v0 kc RLC (nI most) (cS h J F) = (if tS b n 0 = n then some (1, cT h b n (up2 J v0 0 0) F (tS b n 0) (F 5) (-1)) else ob (iter (fun z : Int32 × Hp => lnC v0 kc RLC (nI most) z.1 z.2) FU ((0 : Int32), cT h b n (up2 J v0 0 0) F (tS b n 0) (F 5) (-1))) fnC) := by
    unfold rlC
    rw [cS_k, gd_d hk, cS_seta _ _ hv1, x_first s tc0, ob2_s, cS_k, gd_d (k1 s), x_more s hq hn, ob_s, cT_k, gd_d (k1 s)]
    by_cases e : tS b n 0 = n
    · rw [if_pos e, if_pos rfl, if_pos e]
    · rw [if_neg e, if_neg (by decide), if_neg e]
  have m0 : ∀ hM, Sh hM → F_X12_readAll 59 v1 (rfS hM K G) = (if tS b n 0 = n then some (0, rfT hM K (gB G) (tS b n 0) (tS b n 0)) else ob (iter (fun z : Int32 × Hp => F_X12_readAll_l42 59 v1 z.1 z.2) FU ((0 : Int32), rfT hM K (gB G) (tS b n 0) (tS b n 0))) fnM) := fun hM sM => by
    obtain ⟨g, eg⟩ := gB_T hM K G
    unfold F_X12_readAll F_X12_readAll_b0
    rw [rfS_k, gd_d (k59 sM), rfS_1, rfS_set, rfS_set, rfS_set, rfS_set, eg, m_blanks sM tm (by omega), ob2_s, m_k, gd_d (k59 sM), m_r7, m_r8, tm.2.1]
    by_cases e : tS b n 0 = n
    · rw [if_pos e, if_pos (by rw [e])]
    · rw [if_neg e, if_neg (fun x => e ((nI_eq (by omega) (by omega)).mp x))]
      rfl
  by_cases e : tS b n 0 = n
  · right
    refine ⟨0, tS b n 0, up2 J v0 0 0, F 5, K, gB G, tS b n 0, tS b n 0, ?_, fun hM sM => ?_, by omega, 0, rel⟩
    · rw [c0, if_pos e]
    · rw [m0 hM sM, if_pos e]
      rfl
  · have key := lines_joint2 s hn hv1 hv2 hk hmost HL HS hRel hmono most 0 (tS b n 0) (tS b n 0) (up2 J v0 0 0) K (gB G) (F 5) FU FU (by omega) (FU_lt (by omega)) (FU_lt (by omega)) hq (hmono _ _ _ _ _ _ rel (Nat.zero_le _))
    rw [tS_idem (by omega)] at key
    rcases key with ⟨f, q', J', t', K', G', p', a1, a2, a3⟩ | ⟨i', q', J', t', K', G', p', g', a1, a2, a3, a4⟩
    · left
      refine ⟨f, q', J', t', K', G', p', ?_, fun hM sM => ?_, a3⟩
      · rw [c0, if_neg e]
        exact a1
      · rw [m0 hM sM, if_neg e]
        exact a2 hM sM
    · right
      refine ⟨i', q', J', t', K', G', p', g', ?_, fun hM sM => ?_, a3, a4⟩
      · rw [c0, if_neg e]
        exact a1
      · rw [m0 hM sM, if_neg e]
        exact a2 hM sM
end LINES2
