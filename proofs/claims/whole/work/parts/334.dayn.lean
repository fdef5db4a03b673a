/-! A DAY: the reference, a minute and all of them -/
section DAYN
variable {h : Hp} {f : Nat → Int32}
theorem dir_m {x s : Int32} (hs : bw s 0 99999) (hx : -89919 ≤ x.toInt ∧ x.toInt ≤ 89919) : (s < jabs x → dirS x s = if 0 < x then 1 else -1) ∧ (¬ s < jabs x → dirS x s = 0) := by
  obtain ⟨s1, s2⟩ := hs
  have ea := jabs_i (v := x) (by omega)
  have z : (0 : Int32).toInt = 0 := rfl
  have en : (0 - s).toInt = -s.toInt := by
    rw [fb_subI (by omega) (by omega), z]
    omega
  constructor
  · intro q
    rw [fa_lt, ea] at q
    unfold dirS
    by_cases p : 0 < x
    · have p' := p
      rw [fa_lt, z] at p'
      rw [if_pos p, if_pos (by rw [fa_lt]; omega)]
    · have p' := p
      rw [fa_lt, z] at p'
      rw [if_neg p, if_neg (by rw [fa_lt]; omega), if_pos (by rw [fa_lt, en]; omega)]
  · intro q
    rw [fa_lt, ea] at q
    unfold dirS
    rw [if_neg (by rw [fa_lt]; omega), if_neg (by rw [fa_lt, en]; omega)]
theorem va_id {D : Nat → Int32} {k : Nat} {v : Int32} (e : D k = v) : va_up D k v = D := by
  rw [← e]
  exact va_same D k
theorem va_va {D : Nat → Int32} {k : Nat} {v w : Int32} : va_up (va_up D k v) k w = va_up D k w := by
  funext j
  by_cases e : j = k
  · subst e
    rw [va_e, va_e]
  · rw [va_n _ _ _ _ e, va_n _ _ _ _ e, va_n _ _ _ _ e]
theorem m_slides (s : Sh h) (i : Inv f) {b : Nat} (hb : b < 2) {x : Int32} (hx : -89919 ≤ x.toInt ∧ x.toInt ≤ 89919) {S T D : Nat → Int32} {sl : Nat} (oT : okS f (nT f) T) (d : D 17 = nI sl) : F_X12_slides 59 (nI b) x (dM h f S T D) = some ((), dM h f S (slS f b (dirS x (f 9)) T).1 (va_up D 17 (nI (sl + (slS f b (dirS x (f 9)) T).2)))) := by
  have t6 := iT6 i
  have r8 := iR8 i
  have s' : ∀ S T D, Sh (dM h f S T D) := fun S T D => s
  have e9 : zI (dM h f S T D) 60 9 = f 9 := by rw [dM_60, dyF_o (fun t _ => by omega)]
  obtain ⟨k1, k2⟩ := dir_m (i9 i) hx
  unfold F_X12_slides F_X12_slides_b0
  rw [gd_d (k59 (s' _ _ _)), r59_1 (s' _ _ _), ob_s, gd_d (k60 (s' _ _ _)), nl_9, l60 (s' _ _ _), ix_t (by omega) (by omega), gd_t, ncl (by omega), e9]
  by_cases q : f 9 < jabs x
  · rw [if_pos q, k1 q]
    generalize hd : (if 0 < x then (1 : Int) else -1) = dd
    refine ob_p (iter_at (fun j => (nI j, dM h f S (foldN (slU f b dd) j (T, 0)).1 (va_up D 17 (nI (sl + (foldN (slU f b dd) j (T, 0)).2))))) (nT f) _ ?_ (fun j hj => ?_) ?_ (FU_lt (by omega))) _
    · show _ = (nI 0, dM h f S T (va_up D 17 (nI (sl + 0))))
      rw [Nat.add_zero, va_id d]
      rfl
    · show F_X12_slides_l17 59 (nI b) x (nI j) (dM h f S (foldN (slU f b dd) j (T, 0)).1 (va_up D 17 (nI (sl + (foldN (slU f b dd) j (T, 0)).2)))) = some (Sum.inl (nI (j + 1), dM h f S (slU f b dd j (foldN (slU f b dd) j (T, 0))).1 (va_up D 17 (nI (sl + (slU f b dd j (foldN (slU f b dd) j (T, 0))).2)))))
      have inv := sl_ok i (b := b) (d := dd) oT j (by omega)
      generalize foldN (slU f b dd) j (T, 0) = z at inv ⊢
      obtain ⟨o1, -, -⟩ := inv
      obtain ⟨e1, e2⟩ := okS_cf i o1 hj
      obtain ⟨n1, n2, n3, n4, n5⟩ := @dyF_n f z.1
      have ii := dyF_i i o1
      have e2z : zI (dM h f S z.1 (va_up D 17 (nI (sl + z.2)))) 60 2 = nI (nT f) := by rw [dM_60, dyF_o (fun t _ => by omega), iT i]
      have ein : F_X12_ofTrunk 59 (nI j) 2 (dM h f S z.1 (va_up D 17 (nI (sl + z.2)))) = some (nI (cf z.1 j)) := by
        rw [m_ofI (s' _ _ _) (by omega), dM_60, dyF_t (by omega), ← e1]
      have e42 : F_X12_slides_b42 59 (nI b) x (nI j) 59 (nI (cf z.1 j)) (nI b) (b2 (decide (0 < x))) (dM h f S z.1 (va_up D 17 (nI (sl + z.2)))) = some (Sum.inl (nI (j + 1), dM h f S (slU f b dd j z).1 (va_up D 17 (nI (sl + (slU f b dd j z).2))))) := by
        have mb := m_beside (s' S z.1 (va_up D 17 (nI (sl + z.2)))) (by rw [dM_60]; exact ii) hb (decide (0 < x)) (q := cf z.1 j) (by rw [dM_60, n1]; exact e2)
        have ed : (if decide (0 < x) = true then (1 : Int) else -1) = dd := by
          rw [← hd]
          by_cases p : 0 < x
          · rw [if_pos p, if_pos (decide_eq_true p)]
          · rw [if_neg p, if_neg (by rw [decide_eq_false p]; decide)]
        rw [dM_60, ed, dyF_nx i b hb dd (by omega)] at mb
        have ea : (((53 : Int32) + ((3 : Int32) * nI j)) + (2 : Int32)) = nI (55 + 3 * j) := by
          rw [nl_53, nl_3, nl_2, nmul, nadd, nadd]
          congr 1
          omega
        unfold F_X12_slides_b42 F_X12_slides_b80
        rw [mb, ob_s, gd_d (k59 (s' _ _ _)), gd_d (k59 (s' _ _ _)), r59_1 (s' _ _ _), ob_s, gd_d (k60 (s' _ _ _)), ea, l60 (s' _ _ _), ix_t (by omega) (by omega), gd_t, ncl (by omega), ob_s, dM_w60 (by omega), dM_59, va_e, nI_1, dM_w59, va_va, nI_1]
        unfold slU
        rcases nxS_inv f b dd (cf z.1 j) with w | ⟨r, hr, w, -⟩
        · rw [if_neg (by rw [w]; decide), if_pos w]
        · rw [if_pos (by rw [w]; exact nI_pos' (by omega)), if_neg (by rw [w]; exact neg1_ne (by omega))]
          rfl
      unfold F_X12_slides_l17
      rw [m_trunks (s' _ _ _), ob_s, gd_d (k59 (s' _ _ _)), e2z, if_neg (nI_ge hj (by omega)), ein, ob_s]
      by_cases p : 0 < x
      · rw [decide_eq_true p] at e42
        rw [if_neg (Int32.not_le.mpr p)]
        exact e42
      · rw [decide_eq_false p] at e42
        rw [if_pos (Int32.not_lt.mp p)]
        exact e42
    · show F_X12_slides_l17 59 (nI b) x (nI (nT f)) (dM h f S (slS f b dd T).1 (va_up D 17 (nI (sl + (slS f b dd T).2)))) = _
      have e2z : zI (dM h f S (slS f b dd T).1 (va_up D 17 (nI (sl + (slS f b dd T).2)))) 60 2 = nI (nT f) := by rw [dM_60, dyF_o (fun t _ => by omega), iT i]
      unfold F_X12_slides_l17
      rw [m_trunks (s' _ _ _), ob_s, gd_d (k59 (s' _ _ _)), e2z, if_pos (Int32.le_refl _)]
  · rw [if_neg q, k2 q, sl_0]
    show some ((), dM h f S T D) = some ((), dM h f S T (va_up D 17 (nI (sl + 0))))
    rw [Nat.add_zero, va_id d]
theorem dM_seat (i : Inv f) {S T D : Nat → Int32} (oS : okS f (nG f) S) : seated (dM h f S T D) 66 (nG (zI (dM h f S T D) 60)) (cf S) := fun g hg => by
  have r8 := iR8 i
  rw [dM_60, (@dyF_n f T).2.1] at hg
  obtain ⟨o1, o2⟩ := okS_cf i oS hg
  rw [dM_66]
  exact ⟨o1, by omega⟩
theorem m_net2 (s : Sh h) (i : Inv f) {b : Nat} (hb : b < 2) {S T D : Nat → Int32} (oS : okS f (nG f) S) (oT : okS f (nT f) T) : F_X12_net 59 (nI b) (dM h f S T D) = some (netS f b (cf S)) := by
  have s' : Sh (dM h f S T D) := s
  have r8 := iR8 i
  have := m_net s' (by rw [dM_60]; exact dyF_i i oT) hb (dM_seat (h := h) (T := T) (D := D) i oS)
  rw [dM_60, dyF_net i b hb (fun g hg => by have := (okS_cf i oS hg).2; omega)] at this
  exact this
theorem m_min (s : Sh h) (i : Inv f) {m : Nat} (hm : m < 1000) {S T D : Nat → Int32} {sl L : Nat} {sp : Int32} (oS : okS f (nG f) S) (oT : okS f (nT f) T) (d17 : D 17 = nI sl) (d18 : D 18 = sp) (hsp : sp = -1 ∨ ∃ n, n < 1000 ∧ sp = nI n) (v : Int32) : ∃ D', F_X12_passesDay_b87 59 v (nI m) (dM h f S T D) = some (.inl (v, nI (m + 1), dM h f S (mnT2 f S T).1 D')) ∧ D' 17 = nI (mnE f m S L T sl sp).2.2.2.1 ∧ D' 18 = (mnE f m S L T sl sp).2.2.2.2 ∧ ∀ k, k ≠ 17 → k ≠ 18 → D' k = D k := by
  have s' : ∀ S T D, Sh (dM h f S T D) := fun S T D => s
  have r8 := iR8 i
  have b0 := net_bd i (b := 0) (s := cf S) (by omega) (fun g hg => (okS_cf i oS hg).2)
  have b1 := net_bd i (b := 1) (s := cf S) (by omega) (fun g hg => (okS_cf i oS hg).2)
  have oT1 : okS f (nT f) (mnT1 f S T).1 := (slS_ok i oT).1
  have oT2 : okS f (nT f) (mnT2 f S T).1 := (slS_ok i oT1).1
  have e1 : F_X12_slides 59 (nI 0) (netS f 0 (cf S)) (dM h f S T D) = some ((), dM h f S (mnT1 f S T).1 (va_up D 17 (nI (sl + (mnT1 f S T).2)))) := m_slides s i (by omega) b0 oT d17
  have e2 : F_X12_slides 59 (nI 1) (netS f 1 (cf S)) (dM h f S (mnT1 f S T).1 (va_up D 17 (nI (sl + (mnT1 f S T).2)))) = some ((), dM h f S (mnT2 f S T).1 (va_up D 17 (nI (sl + (mnT1 f S T).2 + (mnT2 f S T).2)))) := by
    have := m_slides (S := S) s i (b := 1) (by omega) b1 oT1 (D := va_up D 17 (nI (sl + (mnT1 f S T).2))) (sl := sl + (mnT1 f S T).2) (va_e _ _ _)
    rw [va_va] at this
    exact this
  have lv : F_X12_isLevel 59 (dM h f S (mnT2 f S T).1 (va_up D 17 (nI (sl + (mnT1 f S T).2 + (mnT2 f S T).2)))) = some (b2 (mnL f S (mnT2 f S T).1)) := by
    have := m_isLevel (s' S (mnT2 f S T).1 (va_up D 17 (nI (sl + (mnT1 f S T).2 + (mnT2 f S T).2)))) (by rw [dM_60]; exact dyF_i i oT2) (dM_seat (h := h) i oS)
    rw [dM_60, dyF_net i 0 (by omega) (fun g hg => by have := (okS_cf i oS hg).2; omega), dyF_net i 1 (by omega) (fun g hg => by have := (okS_cf i oS hg).2; omega), dyF_lev i oT2] at this
    exact this
  have c18 : zI (dM h f S (mnT2 f S T).1 (va_up D 17 (nI (sl + (mnT1 f S T).2 + (mnT2 f S T).2)))) 59 18 = sp := by rw [dM_59, va_n _ _ _ _ (by decide), d18]
  unfold F_X12_passesDay_b87 F_X12_passesDay_b132
  rw [nl_0, nl_1, m_net2 s i (by omega) oS oT, ob_s, gd_d (k59 (s' _ _ _)), m_net2 s i (by omega) oS oT, ob_s, e1, ob2_s, e2, ob2_s, gd_d (k59 (s' _ _ _)), gd_d (k59 (s' _ _ _)), c18, nadd, lv, ob_s, dM_w59]
  have esl : (mnE f m S L T sl sp).2.2.2.1 = sl + (mnT1 f S T).2 + (mnT2 f S T).2 := (Nat.add_assoc _ _ _).symm
  rw [esl]
  rcases hsp with q | ⟨n, hn, q⟩
  · rw [if_neg (by rw [q]; decide)]
    cases w : mnL f S (mnT2 f S T).1 with
    | false =>
      rw [b2_f, if_pos (show (0 : Int32) = nI 0 from rfl)]
      refine ⟨_, rfl, ?_, ?_, fun k h1 h2 => ?_⟩
      · rw [va_n _ _ _ _ (by decide), va_e]
      · rw [va_e]
        exact (if_pos ⟨q, w⟩).symm
      · rw [va_n _ _ _ _ h2, va_n _ _ _ _ h1]
    | true =>
      rw [b2_t, if_neg (by decide)]
      refine ⟨_, rfl, ?_, ?_, fun k h1 h2 => ?_⟩
      · rw [va_e]
      · rw [va_n _ _ _ _ (by decide), d18]
        exact (if_neg (fun z => by rw [w] at z; exact absurd z.2 (by decide))).symm
      · rw [va_n _ _ _ _ h1]
  · rw [if_pos (by rw [q]; exact nI_pos' (by omega))]
    refine ⟨_, rfl, ?_, ?_, fun k h1 h2 => ?_⟩
    · rw [va_e]
    · rw [va_n _ _ _ _ (by decide), d18]
      exact (if_neg (fun z => by
        have := z.1
        rw [q] at this
        exact neg1_ne (by omega) this)).symm
    · rw [va_n _ _ _ _ h1]
theorem m_walk (s : Sh h) (i : Inv f) (m : Nat) (hm : m < 1000) : ∀ (n : Nat) {S T D : Nat → Int32} {L : Nat}, okS f (nT f) T → L ≤ nB f → nB f < L + n → ∀ fuel, n ≤ fuel → iter (fun z : Int32 × Hp => F_X12_passesDay_l25 59 z.1 (nI m) z.2) fuel (nI L, dM h f S T D) = some (nI (wkS f m n (S, L)).2, dM h f (wkS f m n (S, L)).1 T D)
  | 0, S, T, D, L, oT, h1, h2, fuel, h3 => absurd h2 (by omega)
  | n + 1, S, T, D, L, oT, h1, h2, fuel, h3 => by
    have b20 := iB20 i
    have g5 := iG5 i
    obtain ⟨fu, rfl⟩ : ∃ fu, fuel = fu + 1 := ⟨fuel - 1, by omega⟩
    have s' : Sh (dM h f S T D) := s
    have z4 : zI (dM h f S T D) 60 4 = nI (nB f) := by rw [dM_60, dyF_o (fun t _ => by omega), iB i]
    by_cases q : L < nB f
    · have a1 : (71 : Int32) + (3 : Int32) * nI L = nI (71 + 3 * L) := by rw [nl_71, nl_3, nmul, nadd]
      have y1 : zI (dM h f S T D) 60 (71 + 3 * L) = f (71 + 3 * L) := by rw [dM_60, dyF_o (fun t _ => by omega)]
      have y2 : zI (dM h f S T D) 60 (72 + 3 * L) = f (72 + 3 * L) := by rw [dM_60, dyF_o (fun t _ => by omega)]
      have y3 : zI (dM h f S T D) 60 (73 + 3 * L) = f (73 + 3 * L) := by rw [dM_60, dyF_o (fun t _ => by omega)]
      obtain ⟨-, ⟨g, hg, eg⟩, -⟩ := ibk i L q
      have st : F_X12_passesDay_l25 59 (nI L) (nI m) (dM h f S T D) = if f (71 + 3 * L) = nI m then some (.inl (nI (L + 1), dM h f (va_up S (f (72 + 3 * L)).toNatClampNeg (f (73 + 3 * L))) T D)) else some (.inr (nI L, dM h f S T D)) := by
        unfold F_X12_passesDay_l25
        rw [gd_d (k59 s'), r59_1 s', ob_s, gd_d (k60 s'), nl_4, l60 s', ix_t (by omega) (by omega), gd_t, ncl (by omega), z4, if_neg (nI_ge q (by omega)), ob_s, gd_d (k60 s'), a1, l60 s', ix_t (by omega) (by omega), gd_t, ncl (by omega), y1, r59_15 s', ob_s, ob_s, gd_d (k60 s'), nI_1, show 71 + 3 * L + 1 = 72 + 3 * L by omega, l60 s', ix_t (by omega) (by omega), gd_t, ob_s, gd_d (k60 s'), nl_2, nadd, show 71 + 3 * L + 2 = 73 + 3 * L by omega, l60 s', ix_t (by omega) (by omega), gd_t, gd_d (k66 s'), ncl (by omega), ncl (by omega), y2, y3, eg, l66 s', ix_t (by omega) (by omega), gd_t, ob_s, dM_w66, nI_1]
      by_cases w : f (71 + 3 * L) = nI m
      · rw [if_pos w] at st
        rw [iter_st st]
        have ew : wkS f m (n + 1) (S, L) = wkS f m n (va_up S (f (72 + 3 * L)).toNatClampNeg (f (73 + 3 * L)), L + 1) := by
          conv => lhs; unfold wkS
          rw [if_pos ⟨q, w⟩]
        rw [ew]
        exact m_walk s i m hm n oT (by omega) (by omega) fu (by omega)
      · rw [if_neg w] at st
        have ew : wkS f m (n + 1) (S, L) = (S, L) := by
          unfold wkS
          rw [if_neg (fun z => w z.2)]
        rw [iter_en st, ew]
    · have st : F_X12_passesDay_l25 59 (nI L) (nI m) (dM h f S T D) = some (.inr (nI L, dM h f S T D)) := by
        unfold F_X12_passesDay_l25
        rw [gd_d (k59 s'), r59_1 s', ob_s, gd_d (k60 s'), nl_4, l60 s', ix_t (by omega) (by omega), gd_t, ncl (by omega), z4, if_pos (nI_le (by omega) (by omega))]
      have ew : wkS f m (n + 1) (S, L) = (S, L) := by
        unfold wkS
        rw [if_neg (fun z => q z.1)]
      rw [iter_en st, ew]
end DAYN
