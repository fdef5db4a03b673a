/-! WISHES: all atoms, and a whole condition -/
section WCOND
variable {h : Hp} {b : Nat → Int32} {n : Nat} {F : Nat → Int32} {i d : Nat} {rcC : Nat → Nat → Nat → Int32 → Hp → Option (Int32 × Hp)} {rcM : Nat → Nat → Hp → Option (Int32 × Hp)}
set_option maxHeartbeats 1000000 in
theorem atom_nt (s : Sh h) (hd : d ≤ 6) (D : Deep h b n F i d rcC rcM) : NT h b n F i (2 * d + 10) true d (F_X10_readAtom_b0 rcC 38 1 (nI d)) (F_X12_readAtom_b0 rcM 59) := by
  intro st p g J K G t e
  by_cases c1 : tS b n p < n ∧ b (tS b n p) = 40
  · exact atom_par s hd D e c1
  by_cases w1 : tIs b n (tS b n p) w_not
  · exact atom_not s hd D e c1 w1
  obtain ⟨tc, tm, e3, e4, e5, e6, hp⟩ := id e
  have hn := tc.1
  have hq := tS_le (b := b) hp
  have hg := tS_ge (b := b) (n := n) p
  have id0 := tS_idem (b := b) hp
  have wl : tW b n (tS b n p) ≤ n := tTo_le isLe b hq
  have nx := x_nxt (t := t) (w := -1) s tc hq
  by_cases w2 : tIs b n (tS b n p) w_alone
  · have lt := tIs_lt (by decide) w2
    right
    refine ⟨st + 1, pJ J (st + i) (-8), t, eK K st 6 0, eG G st, tW b n (tS b n p), tS b n p, ?_, fun hM sM => ?_, wl, TR_push (k := 6) (v := 0) e (by omega) (fun stk hs => tyS_6 (Or.inl rfl) (by omega))⟩
    · unfold F_X10_readAtom_b0
      rw [x_isW0 s tc hq wrd_14 w1, ob_s, cT_k, gd_d (k1 s), if_pos rfl, x_isS0 s tc sg40 hq c1, ob_s, if_pos rfl, x_isW1 s tc hq wrd_15 w2, ob_s, if_neg (by decide), nx, ob2_s, x_cput s e3 (by omega), ob2_s, cT_k, gd_d (k38 s).1, gd_d (Or.inr rfl), tN_w lt]
    · show F_X12_readAtom_b0 rcM 59 (rfT hM K G p g) = _
      unfold F_X12_readAtom_b0
      rw [m_sign0 sM tm hp c1, ob2_s, m_k, gd_d (k59 sM), if_pos rfl, ps_0 sM tm hq id0 wrd_54 w1, ob2_s, m_k, gd_d (k59 sM), if_pos rfl, ps_1 sM tm hq id0 wrd_55 w2, ob2_s, m_k, gd_d (k59 sM), if_neg (by decide)]
      unfold F_X12_readAtom_b134 F_X12_readAtom_b146
      rw [if_neg (by decide), m_emit sM e4 (by omega), ob2_s, m_k, gd_d (k59 sM)]
  by_cases w3 : tIs b n (tS b n p) w_stove
  · have lt := tIs_lt (by decide) w3
    right
    refine ⟨st + 1, pJ J (st + i) (-9), t, eK K st 7 0, eG G st, tW b n (tS b n p), tS b n p, ?_, fun hM sM => ?_, wl, TR_push (k := 7) (v := 0) e (by omega) (fun stk hs => tyS_6 (Or.inr rfl) (by omega))⟩
    · unfold F_X10_readAtom_b0
      rw [x_isW0 s tc hq wrd_14 w1, ob_s, cT_k, gd_d (k1 s), if_pos rfl, x_isS0 s tc sg40 hq c1, ob_s, if_pos rfl, x_isW0 s tc hq wrd_15 w2, ob_s, if_pos rfl, x_isW1 s tc hq wrd_16 w3, ob_s, if_neg (by decide), nx, ob2_s, x_cput s e3 (by omega), ob2_s, cT_k, gd_d (k38 s).1, gd_d (Or.inr rfl), tN_w lt]
    · show F_X12_readAtom_b0 rcM 59 (rfT hM K G p g) = _
      unfold F_X12_readAtom_b0
      rw [m_sign0 sM tm hp c1, ob2_s, m_k, gd_d (k59 sM), if_pos rfl, ps_0 sM tm hq id0 wrd_54 w1, ob2_s, m_k, gd_d (k59 sM), if_pos rfl, ps_0 sM tm hq id0 wrd_55 w2, ob2_s, m_k, gd_d (k59 sM), if_pos rfl, ps_1 sM tm hq id0 wrd_47 w3, ob2_s, m_k, gd_d (k59 sM), if_neg (by decide)]
      unfold F_X12_readAtom_b134 F_X12_readAtom_b146
      rw [if_pos rfl, m_emit sM e4 (by omega), ob2_s, m_k, gd_d (k59 sM)]
  by_cases w4 : tIs b n (tS b n p) w_with
  · have lt := tIs_lt (by decide) w4
    have x0 : tS b n (tW b n (tS b n p)) = tN b n (tS b n p) := tN_w lt
    have hq1 := tN_le (b := b) hq
    have g1 : tW b n (tS b n p) ≤ tN b n (tS b n p) := by rw [← x0]; exact tS_ge _
    have dl : tD b n (tN b n (tS b n p)) ≤ n := tTo_le isDi b hq1
    have ch : F_X10_readAtom_b0 rcC 38 1 (nI d) (cT h b n J F (tS b n p) t (-1)) = ob2 (F_X6_takeNumber 1 (0 : Int32) (4 : Int32) (cT h b n J F (tN b n (tS b n p)) t (-1))) fun r31 h32 => gd (decide (kd (cT h b n J F (tN b n (tS b n p)) t (-1)) 1 = 6)) <| (if r31 = 0 then F_X10_readAtom_b120 rcC h32 else gd (decide (kd h32 1 = 6)) <| ob2 (F_X10_put 38 ((-16 : Int32) - (zI h32 1 5)) h32) fun r37 h38 => gd (decide (kd h32 38 = 9)) <| (if r37 = 0 then F_X10_readAtom_b120 rcC h38 else F_X10_readAtom_b121 rcC (1 : Int32) h38)) := by
      unfold F_X10_readAtom_b0
      rw [x_isW0 s tc hq wrd_14 w1, ob_s, cT_k, gd_d (k1 s), if_pos rfl, x_isS0 s tc sg40 hq c1, ob_s, if_pos rfl, x_isW0 s tc hq wrd_15 w2, ob_s, if_pos rfl, x_isW0 s tc hq wrd_16 w3, ob_s, if_pos rfl, x_isW1 s tc hq wrd_17 w4, ob_s, if_neg (by decide), nx, ob2_s]
    have mh : ∀ hM, Sh hM → F_X12_readAtom_b0 rcM 59 (rfT hM K G p g) = ob2 (F_X12_number 59 (0 : Int32) (4 : Int32) (rfT hM K G (tW b n (tS b n p)) (tS b n p))) fun r52 h53 => ob2 (F_X12_emits 59 (8 : Int32) r52 h53) fun _ h57 => gd (decide (kd h53 59 = 11)) <| (if r52 < 0 then F_X12_readAtom_b184 rcM (0 : Int32) h57 else F_X12_readAtom_b184 rcM (1 : Int32) h57) := fun hM sM => by
      unfold F_X12_readAtom_b0
      rw [m_sign0 sM tm hp c1, ob2_s, m_k, gd_d (k59 sM), if_pos rfl, ps_0 sM tm hq id0 wrd_54 w1, ob2_s, m_k, gd_d (k59 sM), if_pos rfl, ps_0 sM tm hq id0 wrd_55 w2, ob2_s, m_k, gd_d (k59 sM), if_pos rfl, ps_0 sM tm hq id0 wrd_47 w3, ob2_s, m_k, gd_d (k59 sM), if_pos rfl, ps_1 sM tm hq id0 wrd_56 w4, ob2_s, m_k, gd_d (k59 sM), if_neg (by decide)]
      simp only [m_k, k59 sM, gd_t, ob_s, ob2_s, ob4_s, sm_l, sm_r, ac_s, decide_true, decide_false, eq_self, ne_eq, not_false_eq_true, not_true_eq_false, if_true, if_false, ite_true, ite_false, reduceIte, or_true, true_or, or_false, false_or, and_true, true_and, Bool.false_eq_true, reduceCtorEq]
    by_cases ok : tOk b n (tN b n (tS b n p)) 0 4
    · right
      have v1 := tOk_le (m := 4) hq1 ok
      have lt2 := ok.1
      have r := TR_push (B := 2 * d + 10) (ty := true) (p' := tD b n (tN b n (tS b n p))) e (k := 8) (v := nI (tVl b n (tN b n (tS b n p)))) (by omega) (fun stk hs => tyS_8 v1 (by omega))
      rw [cod_8] at r
      refine ⟨st + 1, pJ J (st + i) (-16 - nI (tVl b n (tN b n (tS b n p)))), nI (tVl b n (tN b n (tS b n p))), eK K st 8 (nI (tVl b n (tN b n (tS b n p)))), eG G st, tD b n (tN b n (tS b n p)), tN b n (tS b n p), ?_, fun hM sM => ?_, dl, r⟩
      · rw [ch, x_tN1 s tc hq1 ok, ob2_s, cT_k, gd_d (k1 s), if_neg (by decide), cT_k, gd_d (k1 s), cT_5, x_cput s e3 (by omega), ob2_s, cT_k, gd_d (k38 s).1, if_neg (by decide), tN_d hq1 ok.1]
        rfl
      · show F_X12_readAtom_b0 rcM 59 (rfT hM K G p g) = _
        rw [mh hM sM, m_num1' sM tm wl x0 ok, ob2_s, m_emit sM e4 (by omega), ob2_s, m_k, gd_d (k59 sM), if_neg (nI_pos (by omega))]
        rfl
    · left
      refine ⟨tN b n (tS b n p), tN b n (tS b n p), J, t, eK K st 8 (-1), eG G st, tD b n (tN b n (tS b n p)), ?_, fun hM sM => ?_, WF_e⟩
      · rw [ch, x_tN0 s tc hq1 ok, ob2_s, cT_k, gd_d (k1 s), if_pos rfl]
        rfl
      · show F_X12_readAtom_b0 rcM 59 (rfT hM K G p g) = _
        rw [mh hM sM, m_num0' sM tm wl x0 ok, ob2_s, m_emit sM e4 (by omega), ob2_s, m_k, gd_d (k59 sM), if_pos (by decide)]
        rfl
  · have key := cm_nt s rcM st (tS b n p) (tS b n p) J K G t (ES_p e hg hq)
    rw [id0] at key
    refine WO_c (WO_p (WO_b key (show 2 * d + 10 ≤ 29 by omega)) hg) ?_ (fun hM sM => ?_)
    · unfold F_X10_readAtom_b0
      rw [x_isW0 s tc hq wrd_14 w1, ob_s, cT_k, gd_d (k1 s), if_pos rfl, x_isS0 s tc sg40 hq c1, ob_s, if_pos rfl, x_isW0 s tc hq wrd_15 w2, ob_s, if_pos rfl, x_isW0 s tc hq wrd_16 w3, ob_s, if_pos rfl, x_isW0 s tc hq wrd_17 w4, ob_s, if_pos rfl]
      rcases key with ⟨f, q', J', t', K', G', p', a1, -, -⟩ | ⟨st', J', t', K', G', p', g', a1, -, -, -⟩
      · rw [a1, ob2_s, cT_k, gd_d (k38 s).1, gd_d (Or.inl rfl)]
      · rw [a1, ob2_s, cT_k, gd_d (k38 s).1, gd_d (Or.inr rfl)]
    · show F_X12_readAtom_b0 rcM 59 (rfT hM K G p g) = cmM rcM (rfT hM K G (tS b n p) (tS b n p))
      unfold F_X12_readAtom_b0
      rw [m_sign0 sM tm hp c1, ob2_s, m_k, gd_d (k59 sM), if_pos rfl, ps_0 sM tm hq id0 wrd_54 w1, ob2_s, m_k, gd_d (k59 sM), if_pos rfl, ps_0 sM tm hq id0 wrd_55 w2, ob2_s, m_k, gd_d (k59 sM), if_pos rfl, ps_0 sM tm hq id0 wrd_47 w3, ob2_s, m_k, gd_d (k59 sM), if_pos rfl, ps_0 sM tm hq id0 wrd_56 w4, ob2_s, m_k, gd_d (k59 sM), if_pos rfl]
      rfl
theorem each_nt (s : Sh h) {nC nM B : Nat} (A : NT h b n F i (B + 1) true d (FR_X10 nC 2 38 1 (nI d)) (FR_X12 nM 0 59)) : NT h b n F i B true d (FR_X10 (nC + 1) 1 38 1 (nI d)) (FR_X12 (nM + 1) 1 59) := by
  have e1 : FR_X10 (nC + 1) 1 38 1 (nI d) = opC (F_X6_isWord 1 24) (FR_X10 nC 2 38 1 (nI d)) (-4) := rfl
  have e2 : FR_X12 (nM + 1) 1 59 = opM (F_X12_passes 59 61) (FR_X12 nM 0 59) 14 := rfl
  rw [e1, e2]
  exact op_nt s (test_w s wrd_24 wrd_61) A (Nat.le_refl _) (fun _ => rfl) (by decide)
theorem any_nt (s : Sh h) {nC nM B : Nat} (A : NT h b n F i (B + 1) true d (FR_X10 nC 1 38 1 (nI d)) (FR_X12 nM 1 59)) : NT h b n F i B true d (FR_X10 (nC + 1) 0 38 1 (nI d)) (FR_X12 (nM + 1) 2 59) := by
  have e1 : FR_X10 (nC + 1) 0 38 1 (nI d) = opC (F_X6_isWord 1 25) (FR_X10 nC 1 38 1 (nI d)) (-5) := rfl
  have e2 : FR_X12 (nM + 1) 2 59 = opM (F_X12_passes 59 62) (FR_X12 nM 1 59) 15 := rfl
  rw [e1, e2]
  exact op_nt s (test_w s wrd_25 wrd_62) A (Nat.le_refl _) (fun _ => rfl) (by decide)
theorem at_ok (s : Sh h) : ∀ (e d nC nM : Nat), d + e = 6 → 1 + 4 * e ≤ nC → 1 + 3 * e ≤ nM → NT h b n F i (2 * d + 10) true d (FR_X10 nC 2 38 1 (nI d)) (FR_X12 nM 0 59)
  | 0, d, nC, nM, h1, h2, h3 => by
    obtain ⟨nC, rfl⟩ : ∃ x, nC = x + 1 := ⟨nC - 1, by omega⟩
    obtain ⟨nM, rfl⟩ : ∃ x, nM = x + 1 := ⟨nM - 1, by omega⟩
    have e1 : FR_X10 (nC + 1) 2 38 1 (nI d) = F_X10_readAtom_b0 (FR_X10 nC) 38 1 (nI d) := rfl
    have e2 : FR_X12 (nM + 1) 0 59 = F_X12_readAtom_b0 (FR_X12 nM) 59 := rfl
    rw [e1, e2]
    exact atom_nt s (by omega) (fun q => absurd q (by omega))
  | e + 1, d, nC, nM, h1, h2, h3 => by
    obtain ⟨nC, rfl⟩ : ∃ x, nC = x + 4 := ⟨nC - 4, by omega⟩
    obtain ⟨nM, rfl⟩ : ∃ x, nM = x + 3 := ⟨nM - 3, by omega⟩
    have e1 : FR_X10 (nC + 4) 2 38 1 (nI d) = F_X10_readAtom_b0 (FR_X10 (nC + 3)) 38 1 (nI d) := rfl
    have e2 : FR_X12 (nM + 3) 0 59 = F_X12_readAtom_b0 (FR_X12 (nM + 2)) 59 := rfl
    rw [e1, e2]
    refine atom_nt s (by omega) (fun _ => ⟨FR_X10 (nC + 2), fun z => rfl, ?_, ?_⟩)
    · have a := at_ok s e (d + 1) nC nM (by omega) (by omega) (by omega)
      exact any_nt s (B := 2 * d + 10) (each_nt s (B := 2 * d + 11) a)
    · have a := at_ok s e (d + 1) (nC + 2) (nM + 2) (by omega) (by omega) (by omega)
      exact NT_b a (by omega)
theorem any_ok (s : Sh h) : NT h b n F i 8 true 0 (F_X10_readAny 38 1 0) (F_X12_readCond 59) := by
  have a := at_ok (h := h) (b := b) (n := n) (F := F) (i := i) s 6 0 38 38 (by omega) (by omega) (by omega)
  exact any_nt s (d := 0) (nC := 39) (nM := 39) (B := 8) (each_nt s (B := 9) a)
end WCOND
