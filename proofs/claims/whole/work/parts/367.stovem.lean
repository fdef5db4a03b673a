/-! THE STOVE: the reference -/
section STOVEM
variable {h : Hp} {f : Nat → Int32}
def mT (h : Hp) (S F Q D : Nat → Int32) : Hp := wI h (va_up (va_up (va_up (va_up (zI h) 66 S) 70 F) 71 Q) 59 D)
theorem mT_66 {S F Q D : Nat → Int32} : zI (mT h S F Q D) 66 = S := by
  unfold mT
  rw [wI_I, va_n _ _ _ _ (by decide), va_n _ _ _ _ (by decide), va_n _ _ _ _ (by decide), va_e]
theorem mT_70 {S F Q D : Nat → Int32} : zI (mT h S F Q D) 70 = F := by
  unfold mT
  rw [wI_I, va_n _ _ _ _ (by decide), va_n _ _ _ _ (by decide), va_e]
theorem mT_71 {S F Q D : Nat → Int32} : zI (mT h S F Q D) 71 = Q := by
  unfold mT
  rw [wI_I, va_n _ _ _ _ (by decide), va_e]
theorem mT_59 {S F Q D : Nat → Int32} : zI (mT h S F Q D) 59 = D := by
  unfold mT
  rw [wI_I, va_e]
theorem mT_o {S F Q D : Nat → Int32} {a : Nat} (h1 : a ≠ 66) (h2 : a ≠ 70) (h3 : a ≠ 71) (h4 : a ≠ 59) : zI (mT h S F Q D) a = zI h a := by
  unfold mT
  rw [wI_I, va_n _ _ _ _ h4, va_n _ _ _ _ h3, va_n _ _ _ _ h2, va_n _ _ _ _ h1]
theorem mT_at {S F Q D : Nat → Int32} (a : Nat) : zI (mT h S F Q D) a = if a = 59 then D else if a = 71 then Q else if a = 70 then F else if a = 66 then S else zI h a := by
  by_cases h1 : a = 59
  · subst h1
    exact mT_59
  · rw [if_neg h1]
    by_cases h2 : a = 71
    · subst h2
      exact mT_71
    · rw [if_neg h2]
      by_cases h3 : a = 70
      · subst h3
        exact mT_70
      · rw [if_neg h3]
        by_cases h4 : a = 66
        · subst h4
          exact mT_66
        · rw [if_neg h4, mT_o h4 h3 h2 h1]
theorem mT_e {S F Q D : Nat → Int32} {J : Nat → Nat → Int32} (e : ∀ a, J a = if a = 59 then D else if a = 71 then Q else if a = 70 then F else if a = 66 then S else zI h a) : wI h J = mT h S F Q D := by
  have : J = zI (mT h S F Q D) := by
    funext a
    rw [e a, mT_at]
  rw [this]
  rfl
theorem mT_st {S F Q D T : Nat → Int32} : stH (mT h S F Q D) 66 T = mT h T F Q D := by
  unfold stH
  show wI h _ = _
  refine mT_e (fun a => ?_)
  by_cases h1 : a = 66
  · subst h1
    rw [va_e]
    rfl
  · rw [va_n _ _ _ _ h1, mT_at, if_neg h1, if_neg h1]
theorem mT_w70 {S F Q D : Nat → Int32} {k : Nat} {v : Int32} : setI (mT h S F Q D) 70 k v = mT h S (va_up F k v) Q D := by
  rw [setI_w]
  show wI h _ = _
  refine mT_e (fun a => ?_)
  by_cases h1 : a = 70
  · subst h1
    rw [up2_v1, mT_70]
    rfl
  · rw [up2_a _ _ _ _ _ h1, mT_at, if_neg h1, if_neg h1]
theorem mT_w71 {S F Q D : Nat → Int32} {k : Nat} {v : Int32} : setI (mT h S F Q D) 71 k v = mT h S F (va_up Q k v) D := by
  rw [setI_w]
  show wI h _ = _
  refine mT_e (fun a => ?_)
  by_cases h1 : a = 71
  · subst h1
    rw [up2_v1, mT_71]
    rfl
  · rw [up2_a _ _ _ _ _ h1, mT_at, if_neg h1, if_neg h1]
theorem mT_w59 {S F Q D : Nat → Int32} {k : Nat} {v : Int32} : setI (mT h S F Q D) 59 k v = mT h S F Q (va_up D k v) := by
  rw [setI_w]
  show wI h _ = _
  refine mT_e (fun a => ?_)
  by_cases h1 : a = 59
  · subst h1
    rw [up2_v1, mT_59]
    rfl
  · rw [up2_a _ _ _ _ _ h1, mT_at, if_neg h1, if_neg h1]
theorem mT_0 : mT h (zI h 66) (zI h 70) (zI h 71) (zI h 59) = h := by
  rw [← mT_e (h := h) (J := zI h) (fun a => ?_)]
  · exact wI_0 h
  · by_cases h1 : a = 59
    · subst h1
      rfl
    · rw [if_neg h1]
      by_cases h2 : a = 71
      · subst h2
        rfl
      · rw [if_neg h2]
        by_cases h3 : a = 70
        · subst h3
          rfl
        · rw [if_neg h3]
          by_cases h4 : a = 66
          · subst h4
            rfl
          · rw [if_neg h4]
theorem m_isLevelWith (s : Sh h) (e60 : zI h 60 = f) (i : Inv f) {q : Nat} (hq : q < nR f) {sf : Nat → Nat} (hs : seated h 66 (nG f) sf) : F_X12_isLevelWith 59 (nI q) h = some (b2 (levS f (nq f q 0 sf) (nq f q 1 sf) (tin f))) := by
  subst e60
  have r8 := iR8 i
  unfold F_X12_isLevelWith F_X12_isLevelWith_b0 F_X12_isLevelWith_b44 F_X12_isLevelWith_b45
  rw [nl_0, nl_1, m_netWithout s i (by omega) (by omega) (Or.inl hq), ob_s, gd_d (k59 s), m_guestsBy s i (by omega) hs, ob_s, m_isLevelBy s i (by omega), ob_s, m_netWithout s i (by omega) (by omega) (Or.inl hq), ob_s, m_guestsBy s i (by omega) hs, ob_s, m_isLevelBy s i (by omega), ob_s]
  change (if b2 (lev1 (zI h 60) 0 (nq (zI h 60) q 0 sf) (tin (zI h 60))) = 0 then _ else if b2 (lev1 (zI h 60) 1 (nq (zI h 60) q 1 sf) (tin (zI h 60))) = 0 then _ else _) = _
  unfold levS
  cases lev1 (zI h 60) 0 (nq (zI h 60) q 0 sf) (tin (zI h 60)) <;> cases lev1 (zI h 60) 1 (nq (zI h 60) q 1 sf) (tin (zI h 60)) <;> rfl
theorem m_isStep (s : Sh h) (e60 : zI h 60 = f) {a b : Nat} (ha : a < 8) (hb : b < 8) : F_X12_isStep 59 (nI a) (nI b) h = some (b2 (stp f a b)) := by
  subst e60
  unfold F_X12_isStep F_X12_isStep_b0 F_X12_isStep_b38
  rw [m_ofX s (by omega), ob_s, gd_d (k59 s), m_ofX s (by omega), ob_s, m_ofY s (by omega), ob_s, m_ofY s (by omega), ob_s, m_farOf, ob_s, z_g, o_g]
  unfold stp
  by_cases q : jabs (zI h 60 (11 + 4 * a) - zI h 60 (11 + 4 * b)) + jabs (zI h 60 (12 + 4 * a) - zI h 60 (12 + 4 * b)) = 1
  · rw [if_pos q, decide_eq_true q]
    rfl
  · rw [if_neg q, decide_eq_false q]
    rfl
/-- the state of the reference's search -/
def tR (f : Nat → Int32) (D0 : Nat → Int32) (S : BS) (F Q D : Nat → Int32) : Prop := rB (8 ^ (nG f + 1)) S F Q ∧ D 26 = nI S.2.2 ∧ ∀ k, k ≠ 26 → D k = D0 k
theorem m_comes (s : Sh h) (e60 : zI h 60 = f) (i : Inv f) (hG : nG f < 5) {T k z : Nat} {BB : BS} {S F Q D D0 : Nat → Int32} (v : bV (ok2 f) (nbT f) (8 ^ (nG f + 1)) T k BB) (hk : k < BB.2.2) (b : tR f D0 BB F Q D) (hm : z ∈ nbT f (BB.2.1 k)) (hz : z % 8 < nR f) : ∃ S' F' Q' D', F_X12_comes 59 (nI z) (nI (BB.2.1 k)) (mT h S F Q D) = some ((), mT h S' F' Q' D') ∧ tR f D0 (bst (ok2 f) (dd BB k + 1) BB z) F' Q' D' := by
  have g5 := iG5 i
  have r8 := iR8 i
  have p8 : 8 ^ (nG f + 1) ≤ 32768 := pow8 (by omega)
  have hx := (v.2.1 k hk).1
  have hN := nbT_lt i hx hm
  have hd := div8 hN
  obtain ⟨v1, -, -, -⟩ := bst_v v hk hm hN
  have al := bV_all v
  have al1 := bV_all v1
  obtain ⟨b1, b2', b3⟩ := b
  have s' : ∀ S F Q D, Sh (mT h S F Q D) := fun _ _ _ _ => s
  have e60' : ∀ S F Q D, zI (mT h S F Q D) 60 = f := fun _ _ _ _ => by rw [mT_o (by decide) (by decide) (by decide) (by decide), e60]
  have so : seated (mT h (opF f (z / 8) S) F Q D) 66 (nG f) (dg (nG f) (z / 8)) := fun g hg => by
    rw [mT_66]
    exact ⟨fill_in hg, dg_lt _ _ _⟩
  have ok : ok2 f z = lQ f (z % 8) (z / 8) := by
    unfold ok2
    rw [decide_eq_true hz, Bool.true_and]
  have el : lQ f (z % 8) (z / 8) = (vI f (z / 8) && levS f (nq f (z % 8) 0 (dg (nG f) (z / 8))) (nq f (z % 8) 1 (dg (nG f) (z / 8))) (tin f)) := rfl
  unfold F_X12_comes F_X12_comes_b0 F_X12_comes_b31
  rw [gd_d (k59 (s' _ _ _ _)), r59_21 (s' _ _ _ _), ob_s, gd_d (k70 (s' _ _ _ _)), l70 (s' _ _ _ _), ix_t (by omega) (by omega), gd_t, ncl (by omega), mT_70, b1.1 z hN, nl_8, pk_rem (by omega) (by omega) (by omega), pk_div (by omega) (by omega) (by omega), m_opens (s' _ _ _ _) (e60' _ _ _ _) i hd, ob2_s, mT_66, mT_st, m_isLevelWith (s' _ _ _ _) (e60' _ _ _ _) i hz so, ob_s, gd_d (k59 (s' _ _ _ _))]
  cases c : BB.1 z with
  | some d =>
    have e : bst (ok2 f) (dd BB k + 1) BB z = BB := if_neg (fun q => by rw [c] at q; cases q.2)
    have := bV_b v c
    rw [if_pos (show 0 ≤ fe (some d) from nI_pos' (by omega)), e]
    exact ⟨S, F, Q, D, rfl, b1, b2', b3⟩
  | none =>
    rw [if_neg (show ¬ (0 : Int32) ≤ fe none by decide)]
    rw [el] at ok
    cases c1 : vI f (z / 8) with
    | false =>
      rw [c1, Bool.false_and] at ok
      have e : bst (ok2 f) (dd BB k + 1) BB z = BB := if_neg (fun q => by rw [ok] at q; cases q.1)
      rw [b2_f, if_pos rfl, e]
      exact ⟨_, F, Q, D, rfl, b1, b2', b3⟩
    | true =>
      rw [b2_t, if_neg (by decide)]
      rw [c1, Bool.true_and] at ok
      cases c2 : levS f (nq f (z % 8) 0 (dg (nG f) (z / 8))) (nq f (z % 8) 1 (dg (nG f) (z / 8))) (tin f) with
      | false =>
        rw [c2] at ok
        have e : bst (ok2 f) (dd BB k + 1) BB z = BB := if_neg (fun q => by rw [ok] at q; cases q.1)
        rw [b2_f, if_pos rfl, e]
        exact ⟨_, F, Q, D, rfl, b1, b2', b3⟩
      | true =>
        rw [c2] at ok
        have e : bst (ok2 f) (dd BB k + 1) BB z = (va_up BB.1 z (some (dd BB k + 1)), va_up BB.2.1 BB.2.2 z, BB.2.2 + 1) := if_pos ⟨ok, c⟩
        have al2 : BB.2.2 + 1 ≤ 8 ^ (nG f + 1) := by
          rw [e] at al1
          exact al1
        rw [b2_t, if_neg (by decide), r59_21 (s' _ _ _ _), ob_s, ob_s, gd_d (k70 (s' _ _ _ _)), l70 (s' _ _ _ _), ix_t (by omega) (by omega), gd_t, gd_d (k70 (s' _ _ _ _)), ix_t (by omega) (by omega), gd_t, ncl (by omega), mT_70, b1.1 _ hx, bV_d v hk, fe_some, nI_1, mT_w70, r59_22 (s' _ _ _ _), ob_s, gd_d (k71 (s' _ _ _ _)), mT_59, b2', l71 (s' _ _ _ _), ix_t (by omega) (by omega), gd_t, ob_s, ncl (by omega), mT_w71, mT_59, b2', nI_1, mT_w59, e]
        exact ⟨_, _, _, _, rfl, rB_up b1, va_e _ _ _, fun m hm => by rw [va_n _ _ _ _ hm]; exact b3 m hm⟩
theorem T1_q {y z : Nat} (h : y ∈ nbT1 f z) : y % 8 = z % 8 := by
  obtain ⟨g, hg, r, hr, rfl⟩ := mem_T1.mp h
  omega
theorem T2_q (i : Inv f) {y z R : Nat} (hR : R ≤ nR f) (h : y ∈ nbT2 f z R) : y % 8 < nR f := by
  have r8 := iR8 i
  obtain ⟨r, hr, -, rfl⟩ := mem_T2.mp h
  omega
theorem m_stR (s : Sh h) (e60 : zI h 60 = f) (i : Inv f) (hG : nG f < 5) {T k g : Nat} {BB : BS} {S F Q D D0 : Nat → Int32} (v : bV (ok2 f) (nbT f) (8 ^ (nG f + 1)) T k BB) (hk : k < BB.2.2) (b : tR f D0 BB F Q D) (hg : g < nG f) (hz : BB.2.1 k % 8 < nR f) (u w : Int32) : ∃ S' F' Q' D', iter (fun z : Int32 × Hp => F_X12_stove_l137 59 u w (nI (BB.2.1 k)) (nI g) z.1 z.2) FU (0, mT h S F Q D) = some (mT h S' F' Q' D') ∧ tR f D0 ((cl (fun r => [8 * nbr (nG f) (BB.2.1 k / 8) g r + BB.2.1 k % 8]) (nR f)).foldl (bst (ok2 f) (dd BB k + 1)) BB) F' Q' D' := by
  have r8 := iR8 i
  have p8 : 8 ^ (nG f + 1) ≤ 32768 := pow8 (by omega)
  have hx := (v.2.1 k hk).1
  have hd := div8 hx
  have s' : ∀ S F Q D, Sh (mT h S F Q D) := fun _ _ _ _ => s
  have e60' : ∀ S F Q D, zI (mT h S F Q D) 60 = f := fun _ _ _ _ => by rw [mT_o (by decide) (by decide) (by decide) (by decide), e60]
  have er : ∀ S F Q D, zI (mT h S F Q D) 60 0 = nI (nR f) := fun _ _ _ _ => by rw [e60', iR i]
  have mem : ∀ r, r < nR f → 8 * nbr (nG f) (BB.2.1 k / 8) g r + BB.2.1 k % 8 ∈ nbT f (BB.2.1 k) := fun r hr => List.mem_append.mpr (Or.inl (mem_T1.mpr ⟨g, hg, r, hr, rfl⟩))
  have key := iter_cnt (body := fun z : Int32 × Hp => F_X12_stove_l137 59 u w (nI (BB.2.1 k)) (nI g) z.1 z.2) (s0 := (0, mT h S F Q D)) (fun r z => ∃ S' F' Q' D', z = (nI r, mT h S' F' Q' D') ∧ tR f D0 ((cl (fun r => [8 * nbr (nG f) (BB.2.1 k / 8) g r + BB.2.1 k % 8]) r).foldl (bst (ok2 f) (dd BB k + 1)) BB) F' Q' D') (fun x => ∃ S' F' Q' D', x = mT h S' F' Q' D' ∧ tR f D0 ((cl (fun r => [8 * nbr (nG f) (BB.2.1 k / 8) g r + BB.2.1 k % 8]) (nR f)).foldl (bst (ok2 f) (dd BB k + 1)) BB) F' Q' D') (nR f) (fun r z hr hI => ?_) (fun z hI => ?_) ⟨S, F, Q, D, rfl, b⟩ (FU_lt (by omega))
  · obtain ⟨x, hx2, S', F', Q', D', hE, b'⟩ := key
    exact ⟨S', F', Q', D', by rw [hx2, hE], b'⟩
  · obtain ⟨S1, F1, Q1, D1, rfl, b1⟩ := hI
    obtain ⟨v1, x1, -, -⟩ := bst_f (ok := ok2 f) (nb := nbT f) (N := 8 ^ (nG f + 1)) (cl (fun r => [8 * nbr (nG f) (BB.2.1 k / 8) g r + BB.2.1 k % 8]) r) v hk rfl (fun y hy => by
      rw [mem_cl] at hy
      obtain ⟨r', hr', hy⟩ := hy
      have : y = 8 * nbr (nG f) (BB.2.1 k / 8) g r' + BB.2.1 k % 8 := by simpa using hy
      subst this
      exact ⟨mem r' (by omega), nbT_lt i hx (mem r' (by omega))⟩)
    have ek := bV_dd v x1 hk
    have eq := x1.2.1 k hk
    rw [cl_s, List.foldl_append]
    show ∃ z', F_X12_stove_l137 59 u w (nI (BB.2.1 k)) (nI g) (nI r) (mT h S1 F1 Q1 D1) = some (.inl z') ∧ _
    generalize (cl (fun r => [8 * nbr (nG f) (BB.2.1 k / 8) g r + BB.2.1 k % 8]) r).foldl (bst (ok2 f) (dd BB k + 1)) BB = B1 at *
    obtain ⟨S2, F2, Q2, D2, e2, b2⟩ := m_comes (S := S1) s e60 i hG v1 (Nat.lt_of_lt_of_le hk x1.1) b1 (z := 8 * nbr (nG f) (BB.2.1 k / 8) g r + BB.2.1 k % 8) (by rw [eq]; exact mem r hr) (by omega)
    rw [ek] at b2
    rw [eq] at e2
    unfold F_X12_stove_l137
    rw [m_rooms (s' _ _ _ _), ob_s, gd_d (k59 (s' _ _ _ _)), er, if_neg (nI_ge hr (by omega)), nl_8, pk_rem (by omega) (by omega) (by omega), pk_div (by omega) (by omega) (by omega), m_sent (s' _ _ _ _) (e60' _ _ _ _) i hd hg (by omega), ob_s, nmul, nadd, e2, ob2_s, nI_1]
    exact ⟨_, rfl, S2, F2, Q2, D2, rfl, b2⟩
  · obtain ⟨S1, F1, Q1, D1, rfl, b1⟩ := hI
    refine ⟨_, ?_, S1, F1, Q1, D1, rfl, b1⟩
    show F_X12_stove_l137 59 u w _ _ (nI (nR f)) (mT h S1 F1 Q1 D1) = _
    unfold F_X12_stove_l137
    rw [m_rooms (s' _ _ _ _), ob_s, gd_d (k59 (s' _ _ _ _)), er, if_pos (Int32.le_refl _)]
theorem m_stG (s : Sh h) (e60 : zI h 60 = f) (i : Inv f) (hG : nG f < 5) {T k : Nat} {BB : BS} {S F Q D D0 : Nat → Int32} (v : bV (ok2 f) (nbT f) (8 ^ (nG f + 1)) T k BB) (hk : k < BB.2.2) (b : tR f D0 BB F Q D) (hz : BB.2.1 k % 8 < nR f) (u w : Int32) : ∃ S' F' Q' D', iter (fun z : Int32 × Hp => F_X12_stove_l125 59 u w (nI (BB.2.1 k)) z.1 z.2) FU (0, mT h S F Q D) = some (mT h S' F' Q' D') ∧ tR f D0 ((nbT1 f (BB.2.1 k)).foldl (bst (ok2 f) (dd BB k + 1)) BB) F' Q' D' := by
  have r8 := iR8 i
  have hx := (v.2.1 k hk).1
  have s' : ∀ S F Q D, Sh (mT h S F Q D) := fun _ _ _ _ => s
  have e60' : ∀ S F Q D, zI (mT h S F Q D) 60 = f := fun _ _ _ _ => by rw [mT_o (by decide) (by decide) (by decide) (by decide), e60]
  have er : ∀ S F Q D, zI (mT h S F Q D) 60 1 = nI (nG f) := fun _ _ _ _ => by rw [e60', iG i]
  have key := iter_cnt (body := fun z : Int32 × Hp => F_X12_stove_l125 59 u w (nI (BB.2.1 k)) z.1 z.2) (s0 := (0, mT h S F Q D)) (fun g z => ∃ S' F' Q' D', z = (nI g, mT h S' F' Q' D') ∧ tR f D0 ((cl (fun g => cl (fun r => [8 * nbr (nG f) (BB.2.1 k / 8) g r + BB.2.1 k % 8]) (nR f)) g).foldl (bst (ok2 f) (dd BB k + 1)) BB) F' Q' D') (fun x => ∃ S' F' Q' D', x = mT h S' F' Q' D' ∧ tR f D0 ((nbT1 f (BB.2.1 k)).foldl (bst (ok2 f) (dd BB k + 1)) BB) F' Q' D') (nG f) (fun g z hg hI => ?_) (fun z hI => ?_) ⟨S, F, Q, D, rfl, b⟩ (FU_lt (by omega))
  · obtain ⟨x, hx2, S', F', Q', D', hE, b'⟩ := key
    exact ⟨S', F', Q', D', by rw [hx2, hE], b'⟩
  · obtain ⟨S1, F1, Q1, D1, rfl, b1⟩ := hI
    obtain ⟨v1, x1, -, -⟩ := bst_f (ok := ok2 f) (nb := nbT f) (N := 8 ^ (nG f + 1)) (cl (fun g => cl (fun r => [8 * nbr (nG f) (BB.2.1 k / 8) g r + BB.2.1 k % 8]) (nR f)) g) v hk rfl (fun y hy => by
      rw [mem_cl] at hy
      obtain ⟨g', hg', hy⟩ := hy
      rw [mem_cl] at hy
      obtain ⟨r', hr', hy⟩ := hy
      have : y = 8 * nbr (nG f) (BB.2.1 k / 8) g' r' + BB.2.1 k % 8 := by simpa using hy
      subst this
      have hm : 8 * nbr (nG f) (BB.2.1 k / 8) g' r' + BB.2.1 k % 8 ∈ nbT f (BB.2.1 k) := List.mem_append.mpr (Or.inl (mem_T1.mpr ⟨g', by omega, r', hr', rfl⟩))
      exact ⟨hm, nbT_lt i hx hm⟩)
    have ek := bV_dd v x1 hk
    have eq := x1.2.1 k hk
    rw [cl_s, List.foldl_append]
    show ∃ z', F_X12_stove_l125 59 u w (nI (BB.2.1 k)) (nI g) (mT h S1 F1 Q1 D1) = some (.inl z') ∧ _
    generalize (cl (fun g => cl (fun r => [8 * nbr (nG f) (BB.2.1 k / 8) g r + BB.2.1 k % 8]) (nR f)) g).foldl (bst (ok2 f) (dd BB k + 1)) BB = B1 at *
    obtain ⟨S2, F2, Q2, D2, e2, b2⟩ := m_stR (S := S1) s e60 i hG v1 (Nat.lt_of_lt_of_le hk x1.1) b1 hg (by rw [eq]; exact hz) u w
    rw [ek, eq] at b2
    rw [eq] at e2
    unfold F_X12_stove_l125
    rw [m_guests (s' _ _ _ _), ob_s, gd_d (k59 (s' _ _ _ _)), er, if_neg (nI_ge hg (by omega)), e2, ob_s, nI_1]
    exact ⟨_, rfl, S2, F2, Q2, D2, rfl, b2⟩
  · obtain ⟨S1, F1, Q1, D1, rfl, b1⟩ := hI
    refine ⟨_, ?_, S1, F1, Q1, D1, rfl, b1⟩
    show F_X12_stove_l125 59 u w _ (nI (nG f)) (mT h S1 F1 Q1 D1) = _
    unfold F_X12_stove_l125
    rw [m_guests (s' _ _ _ _), ob_s, gd_d (k59 (s' _ _ _ _)), er, if_pos (Int32.le_refl _)]
theorem m_stS (s : Sh h) (e60 : zI h 60 = f) (i : Inv f) (hG : nG f < 5) {T k : Nat} {BB : BS} {S F Q D D0 : Nat → Int32} (v : bV (ok2 f) (nbT f) (8 ^ (nG f + 1)) T k BB) (hk : k < BB.2.2) (b : tR f D0 BB F Q D) (u w : Int32) : ∃ S' F' Q' D', iter (fun z : Int32 × Hp => F_X12_stove_l189 59 u w (nI (BB.2.1 k)) z.1 z.2) FU (0, mT h S F Q D) = some (mT h S' F' Q' D') ∧ tR f D0 ((nbT2 f (BB.2.1 k) (nR f)).foldl (bst (ok2 f) (dd BB k + 1)) BB) F' Q' D' := by
  have r8 := iR8 i
  have p8 : 8 ^ (nG f + 1) ≤ 32768 := pow8 (by omega)
  have hx := (v.2.1 k hk).1
  have s' : ∀ S F Q D, Sh (mT h S F Q D) := fun _ _ _ _ => s
  have e60' : ∀ S F Q D, zI (mT h S F Q D) 60 = f := fun _ _ _ _ => by rw [mT_o (by decide) (by decide) (by decide) (by decide), e60]
  have er : ∀ S F Q D, zI (mT h S F Q D) 60 0 = nI (nR f) := fun _ _ _ _ => by rw [e60', iR i]
  have key := iter_cnt (body := fun z : Int32 × Hp => F_X12_stove_l189 59 u w (nI (BB.2.1 k)) z.1 z.2) (s0 := (0, mT h S F Q D)) (fun r z => ∃ S' F' Q' D', z = (nI r, mT h S' F' Q' D') ∧ tR f D0 ((nbT2 f (BB.2.1 k) r).foldl (bst (ok2 f) (dd BB k + 1)) BB) F' Q' D') (fun x => ∃ S' F' Q' D', x = mT h S' F' Q' D' ∧ tR f D0 ((nbT2 f (BB.2.1 k) (nR f)).foldl (bst (ok2 f) (dd BB k + 1)) BB) F' Q' D') (nR f) (fun r z hr hI => ?_) (fun z hI => ?_) ⟨S, F, Q, D, rfl, b⟩ (FU_lt (by omega))
  · obtain ⟨x, hx2, S', F', Q', D', hE, b'⟩ := key
    exact ⟨S', F', Q', D', by rw [hx2, hE], b'⟩
  · obtain ⟨S1, F1, Q1, D1, rfl, b1⟩ := hI
    obtain ⟨v1, x1, -, -⟩ := bst_f (ok := ok2 f) (nb := nbT f) (N := 8 ^ (nG f + 1)) (nbT2 f (BB.2.1 k) r) v hk rfl (fun y hy => by
      obtain ⟨r', hr', p, rfl⟩ := mem_T2.mp hy
      have hm : 8 * (BB.2.1 k / 8) + r' ∈ nbT f (BB.2.1 k) := List.mem_append.mpr (Or.inr (mem_T2.mpr ⟨r', by omega, p, rfl⟩))
      exact ⟨hm, nbT_lt i hx hm⟩)
    have ek := bV_dd v x1 hk
    have eq := x1.2.1 k hk
    have es : nbT2 f (BB.2.1 k) (r + 1) = nbT2 f (BB.2.1 k) r ++ (if stp f (BB.2.1 k % 8) r then [8 * (BB.2.1 k / 8) + r] else []) := rfl
    rw [es, List.foldl_append]
    show ∃ z', F_X12_stove_l189 59 u w (nI (BB.2.1 k)) (nI r) (mT h S1 F1 Q1 D1) = some (.inl z') ∧ _
    generalize (nbT2 f (BB.2.1 k) r).foldl (bst (ok2 f) (dd BB k + 1)) BB = B1 at *
    unfold F_X12_stove_l189 F_X12_stove_b229
    rw [m_rooms (s' _ _ _ _), ob_s, gd_d (k59 (s' _ _ _ _)), er, if_neg (nI_ge hr (by omega)), nl_8, pk_rem (by omega) (by omega) (by omega), pk_div (by omega) (by omega) (by omega), m_isStep (s' _ _ _ _) (e60' _ _ _ _) (by omega) (by omega), ob_s, nI_1, nmul, nadd, Nat.mul_comm (BB.2.1 k / 8) 8]
    cases p : stp f (BB.2.1 k % 8) r with
    | false =>
      rw [b2_f, if_pos rfl]
      exact ⟨_, rfl, S1, F1, Q1, D1, rfl, b1⟩
    | true =>
      have hm : 8 * (BB.2.1 k / 8) + r ∈ nbT f (BB.2.1 k) := List.mem_append.mpr (Or.inr (mem_T2.mpr ⟨r, hr, p, rfl⟩))
      obtain ⟨S2, F2, Q2, D2, e2, b2⟩ := m_comes (S := S1) s e60 i hG v1 (Nat.lt_of_lt_of_le hk x1.1) b1 (z := 8 * (BB.2.1 k / 8) + r) (by rw [eq]; exact hm) (by omega)
      rw [ek] at b2
      rw [eq] at e2
      rw [b2_t, if_neg (by decide), e2, ob2_s]
      exact ⟨_, rfl, S2, F2, Q2, D2, rfl, b2⟩
  · obtain ⟨S1, F1, Q1, D1, rfl, b1⟩ := hI
    refine ⟨_, ?_, S1, F1, Q1, D1, rfl, b1⟩
    show F_X12_stove_l189 59 u w _ (nI (nR f)) (mT h S1 F1 Q1 D1) = _
    unfold F_X12_stove_l189
    rw [m_rooms (s' _ _ _ _), ob_s, gd_d (k59 (s' _ _ _ _)), er, if_pos (Int32.le_refl _)]
end STOVEM
