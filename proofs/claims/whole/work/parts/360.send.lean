/-! THE CLASS: all guests are sent; the search for bells -/
section SEND
variable {h : Hp} {f : Nat → Int32} {A Q n : Nat}
theorem cB_h (q : aQ h A Q n) (i : Inv f) (c : HR (zI h) 3 f) {Fa Qa : Nat → Int32} {x : Int32} : HR (zI (cB h A Q Fa Qa x)) 3 f := by
  obtain ⟨h1, h2, -⟩ := q
  exact HR_congr (f := f) (fun a ha => cB_o (by omega) (by omega) (by omega)) (fun g hg => ⟨cB_o (by omega) (by omega) (by omega), cB_o (by omega) (by omega) (by omega)⟩) (fun _ _ => rfl) i c
theorem rep_0 (X g r : Nat) : rep X g 0 + r * 8 ^ g = rep X g r := by
  unfold rep
  rw [Nat.add_zero, Nat.mul_add, Nat.mul_comm r]
  omega
/-- what the search needs to know of the codes -/
def piO (pi : Nat → Nat) (N n : Nat) : Prop := (∀ x y, x < N → y < N → pi x = pi y → x = y) ∧ (∀ y, y < N → pi y < n) ∧ N ≤ n
theorem x_sendR (s : Sh h) (i : Inv f) (c : HR (zI h) 3 f) (q : aQ h A Q n) {pi : Nat → Nat} {N : Nat} {ok : Nat → Bool} {nb : Nat → List Nat} (po : piO pi N n) {T k g : Nat} {S : BS} {Fa Qa : Nat → Int32} (v : bV ok nb N T k S) (hk : k < S.2.2) (b : cR pi N ok S Fa Qa) {nbf : Nat → Nat} (hb : ∀ r, r < nR f → pi (nbf r) = rep (pi (S.2.1 k)) g r ∧ nbf r < N ∧ nbf r ∈ nb (S.2.1 k)) (hg : g < 5) (u w : Int32) : ∃ Fa' Qa', iter (fun z : Int32 × Hp => F_X4_sendGuests_l41 50 u 3 (nI (dd S k + 1)) w (nI (rep (pi (S.2.1 k)) g 0)) (nI (8 ^ g)) z.1 z.2) FU (0, cB h A Q Fa Qa (nI S.2.2)) = some (cB h A Q Fa' Qa' (nI ((cl (fun r => [nbf r]) (nR f)).foldl (bst ok (dd S k + 1)) S).2.2)) ∧ cR pi N ok ((cl (fun r => [nbf r]) (nR f)).foldl (bst ok (dd S k + 1)) S) Fa' Qa' := by
  have r8 := iR8 i
  obtain ⟨h1, h2, h3, h4, h5, h6, h7, h8, h9, h10⟩ := id q
  have s' : ∀ Fa Qa c, Sh (cB h A Q Fa Qa c) := fun _ _ _ => s
  have c' : ∀ Fa Qa x, HR (zI (cB h A Q Fa Qa x)) 3 f := fun _ _ _ => cB_h q i c
  have key := iter_cnt (body := fun z : Int32 × Hp => F_X4_sendGuests_l41 50 u 3 (nI (dd S k + 1)) w (nI (rep (pi (S.2.1 k)) g 0)) (nI (8 ^ g)) z.1 z.2) (s0 := (0, cB h A Q Fa Qa (nI S.2.2))) (fun r z => ∃ Fa' Qa', z = (nI r, cB h A Q Fa' Qa' (nI ((cl (fun r => [nbf r]) r).foldl (bst ok (dd S k + 1)) S).2.2)) ∧ cR pi N ok ((cl (fun r => [nbf r]) r).foldl (bst ok (dd S k + 1)) S) Fa' Qa') (fun x => ∃ Fa' Qa', x = cB h A Q Fa' Qa' (nI ((cl (fun r => [nbf r]) (nR f)).foldl (bst ok (dd S k + 1)) S).2.2) ∧ cR pi N ok ((cl (fun r => [nbf r]) (nR f)).foldl (bst ok (dd S k + 1)) S) Fa' Qa') (nR f) (fun r z hr hI => ?_) (fun z hI => ?_) ⟨Fa, Qa, rfl, b⟩ (FU_lt (by omega))
  · obtain ⟨x, hx, F', Q', hE, b'⟩ := key
    exact ⟨F', Q', by rw [hx, hE], b'⟩
  · obtain ⟨F1, Q1, rfl, b1⟩ := hI
    obtain ⟨v1, x1, -, -⟩ := bst_f (ok := ok) (nb := nb) (N := N) (cl (fun r => [nbf r]) r) v hk rfl (fun y hy => by
      rw [mem_cl] at hy
      obtain ⟨r', hr', hy⟩ := hy
      have : y = nbf r' := by simpa using hy
      subst this
      exact ⟨(hb r' (by omega)).2.2, (hb r' (by omega)).2.1⟩)
    have ek := bV_dd v x1 hk
    have eq := x1.2.1 k hk
    rw [cl_s, List.foldl_append]
    obtain ⟨p1, p2, p3⟩ := hb r hr
    show ∃ z', F_X4_sendGuests_l41 50 u 3 (nI (dd S k + 1)) w (nI (rep (pi (S.2.1 k)) g 0)) (nI (8 ^ g)) (nI r) (cB h A Q F1 Q1 (nI ((cl (fun r => [nbf r]) r).foldl (bst ok (dd S k + 1)) S).2.2)) = some (.inl z') ∧ _
    generalize (cl (fun r => [nbf r]) r).foldl (bst ok (dd S k + 1)) S = S1 at *
    have hk1 : k < S1.2.2 := Nat.lt_of_lt_of_le hk x1.1
    obtain ⟨F2, Q2, e2, b2⟩ := x_reach s q po.1 po.2.1 po.2.2 v1 hk1 b1 p2 (by rw [eq]; exact p3)
    rw [ek, p1] at e2
    rw [ek] at b2
    have hp := po.2.1 _ p2
    rw [p1] at hp
    have e5 : nI (rep (pi (S.2.1 k)) g 0) + nI r * nI (8 ^ g) = nI (rep (pi (S.2.1 k)) g r) := by rw [nmul, nadd, rep_0]
    have e0 : zI (cB h A Q F1 Q1 (nI S1.2.2)) 3 0 = nI (nR f) := (c' _ _ _).1.1.trans (iR i)
    have rA : zR (cB h A Q F1 Q1 (nI S1.2.2)) 50 0 = some A := h5
    have kA : kd (cB h A Q F1 Q1 (nI S1.2.2)) A = 13 := h7
    have lA : zl (cB h A Q F1 Q1 (nI S1.2.2)) A = n := h9
    unfold F_X4_sendGuests_l41 F_X4_sendGuests_b78
    rw [gd_d (k3 (s' _ _ _)), e0, if_neg (nI_ge hr (by omega)), gd_d (k50 (s' _ _ _)), rA, ob_s, gd_d kA, e5, lA, ix_t hp (by omega), gd_t, ncl (by omega), cB_A q, ← p1, b1.1 _ p2, p1, e2, ob2_s, nI_1]
    by_cases z : fc (S1.1 (nbf r)) (ok (nbf r)) = -1
    · rw [if_pos z]
      exact ⟨_, rfl, F2, Q2, rfl, b2⟩
    · rw [if_neg z]
      have e : bst ok (dd S k + 1) S1 (nbf r) = S1 := if_neg (fun w => z ((fc_o (fun d hd => by have := bV_b v1 hd; have := bV_all v1; have := po.2.2; omega)).mpr w))
      refine ⟨_, rfl, F1, Q1, ?_, ?_⟩
      · show _ = (nI (r + 1), cB h A Q F1 Q1 (nI (bst ok (dd S k + 1) S1 (nbf r)).2.2))
        rw [e]
      · show cR pi N ok (bst ok (dd S k + 1) S1 (nbf r)) F1 Q1
        rw [e]
        exact b1
  · obtain ⟨F1, Q1, rfl, b1⟩ := hI
    refine ⟨_, ?_, F1, Q1, rfl, b1⟩
    show F_X4_sendGuests_l41 50 u 3 _ w _ _ (nI (nR f)) (cB h A Q F1 Q1 _) = _
    have e0 : zI (cB h A Q F1 Q1 (nI ((cl (fun r => [nbf r]) (nR f)).foldl (bst ok (dd S k + 1)) S).2.2)) 3 0 = nI (nR f) := (c' _ _ _).1.1.trans (iR i)
    unfold F_X4_sendGuests_l41
    rw [gd_d (k3 (s' _ _ _)), e0, if_pos (Int32.le_refl _)]
theorem x_sendG (s : Sh h) (i : Inv f) (c : HR (zI h) 3 f) (q : aQ h A Q n) {pi : Nat → Nat} {N : Nat} {ok : Nat → Bool} {nb : Nat → List Nat} (po : piO pi N n) {T k : Nat} {S : BS} {Fa Qa : Nat → Int32} (v : bV ok nb N T k S) (hk : k < S.2.2) (b : cR pi N ok S Fa Qa) {nbf : Nat → Nat → Nat} (hb : ∀ g r, g < nG f → r < nR f → pi (nbf g r) = rep (pi (S.2.1 k)) g r ∧ nbf g r < N ∧ nbf g r ∈ nb (S.2.1 k)) : ∃ Fa' Qa', F_X4_sendGuests 50 (nI (pi (S.2.1 k))) 3 (cB h A Q Fa Qa (nI S.2.2)) = some ((), cB h A Q Fa' Qa' (nI ((cl (fun g => cl (fun r => [nbf g r]) (nR f)) (nG f)).foldl (bst ok (dd S k + 1)) S).2.2)) ∧ cR pi N ok ((cl (fun g => cl (fun r => [nbf g r]) (nR f)) (nG f)).foldl (bst ok (dd S k + 1)) S) Fa' Qa' := by
  have r8 := iR8 i
  have g5 := iG5 i
  obtain ⟨h1, h2, h3, h4, h5, h6, h7, h8, h9, h10⟩ := id q
  have s' : ∀ Fa Qa c, Sh (cB h A Q Fa Qa c) := fun _ _ _ => s
  have c' : ∀ Fa Qa x, HR (zI (cB h A Q Fa Qa x)) 3 f := fun _ _ _ => cB_h q i c
  have hx := (v.2.1 k hk).1
  have hp := po.2.1 _ hx
  have rA : zR (cB h A Q Fa Qa (nI S.2.2)) 50 0 = some A := h5
  have kA : kd (cB h A Q Fa Qa (nI S.2.2)) A = 13 := h7
  have lA : zl (cB h A Q Fa Qa (nI S.2.2)) A = n := h9
  have key := iter_cnt (body := fun z : Int32 × Hp => F_X4_sendGuests_l12 50 (nI (pi (S.2.1 k))) 3 (nI (dd S k + 1)) z.1 z.2) (s0 := (0, cB h A Q Fa Qa (nI S.2.2))) (fun g z => ∃ Fa' Qa', z = (nI g, cB h A Q Fa' Qa' (nI ((cl (fun g => cl (fun r => [nbf g r]) (nR f)) g).foldl (bst ok (dd S k + 1)) S).2.2)) ∧ cR pi N ok ((cl (fun g => cl (fun r => [nbf g r]) (nR f)) g).foldl (bst ok (dd S k + 1)) S) Fa' Qa') (fun x => ∃ Fa' Qa', x = cB h A Q Fa' Qa' (nI ((cl (fun g => cl (fun r => [nbf g r]) (nR f)) (nG f)).foldl (bst ok (dd S k + 1)) S).2.2) ∧ cR pi N ok ((cl (fun g => cl (fun r => [nbf g r]) (nR f)) (nG f)).foldl (bst ok (dd S k + 1)) S) Fa' Qa') (nG f) (fun g z hg hI => ?_) (fun z hI => ?_) ⟨Fa, Qa, rfl, b⟩ (FU_lt (by omega))
  · obtain ⟨x, hx2, F', Q', hE, b'⟩ := key
    refine ⟨F', Q', ?_, b'⟩
    unfold F_X4_sendGuests F_X4_sendGuests_b0
    rw [gd_d (k50 (s' _ _ _)), rA, ob_s, gd_d kA, lA, ix_t hp (by omega), gd_t, ncl (by omega), cB_A q, b.1 _ hx, bV_d v hk]
    show ob (iter (fun z : Int32 × Hp => F_X4_sendGuests_l12 50 (nI (pi (S.2.1 k))) 3 (nI (dd S k) + 1) z.1 z.2) FU (0, cB h A Q Fa Qa (nI S.2.2))) _ = _
    rw [nI_1, hx2, ob_s, hE]
  · obtain ⟨F1, Q1, rfl, b1⟩ := hI
    obtain ⟨v1, x1, -, -⟩ := bst_f (ok := ok) (nb := nb) (N := N) (cl (fun g => cl (fun r => [nbf g r]) (nR f)) g) v hk rfl (fun y hy => by
      rw [mem_cl] at hy
      obtain ⟨g', hg', hy⟩ := hy
      rw [mem_cl] at hy
      obtain ⟨r', hr', hy⟩ := hy
      have : y = nbf g' r' := by simpa using hy
      subst this
      exact ⟨(hb g' r' (by omega) hr').2.2, (hb g' r' (by omega) hr').2.1⟩)
    have ek := bV_dd v x1 hk
    have eq := x1.2.1 k hk
    rw [cl_s, List.foldl_append]
    show ∃ z', F_X4_sendGuests_l12 50 (nI (pi (S.2.1 k))) 3 (nI (dd S k + 1)) (nI g) (cB h A Q F1 Q1 (nI ((cl (fun g => cl (fun r => [nbf g r]) (nR f)) g).foldl (bst ok (dd S k + 1)) S).2.2)) = some (.inl z') ∧ _
    generalize (cl (fun g => cl (fun r => [nbf g r]) (nR f)) g).foldl (bst ok (dd S k + 1)) S = S1 at *
    have hk1 : k < S1.2.2 := Nat.lt_of_lt_of_le hk x1.1
    obtain ⟨F2, Q2, e2, b2⟩ := x_sendR s i c q po v1 hk1 b1 (nbf := nbf g) (g := g) (fun r hr => by rw [eq]; exact hb g r hg hr) (by omega) (nI (pi (S.2.1 k))) (nI g)
    rw [ek, eq] at e2
    rw [ek] at b2
    have e0 : zI (cB h A Q F1 Q1 (nI S1.2.2)) 3 5 = nI (nG f) := (c' _ _ _).1.2.1.trans (iG i)
    have es : F_X4_sent (nI (pi (S.2.1 k))) (nI g) 0 (cB h A Q F1 Q1 (nI S1.2.2)) = some (nI (rep (pi (S.2.1 k)) g 0)) := x_sent (r := 0) (by omega) (by omega) (by omega)
    have e1 : (1 : Int32) <<< (((3 : Int32) * nI g) &&& 31) = nI (8 ^ g) := by
      have := shl3 (j := g) (v := 1) (by omega) (by omega)
      rw [Nat.one_mul] at this
      exact this
    unfold F_X4_sendGuests_l12
    rw [gd_d (k3 (s' _ _ _)), e0, if_neg (nI_ge hg (by omega)), es, ob_s, e1, e2, ob_s, nI_1]
    exact ⟨_, rfl, F2, Q2, rfl, b2⟩
  · obtain ⟨F1, Q1, rfl, b1⟩ := hI
    refine ⟨_, ?_, F1, Q1, rfl, b1⟩
    show F_X4_sendGuests_l12 50 _ 3 _ (nI (nG f)) (cB h A Q F1 Q1 _) = _
    have e0 : zI (cB h A Q F1 Q1 (nI ((cl (fun g => cl (fun r => [nbf g r]) (nR f)) (nG f)).foldl (bst ok (dd S k + 1)) S).2.2)) 3 5 = nI (nG f) := (c' _ _ _).1.2.1.trans (iG i)
    unfold F_X4_sendGuests_l12
    rw [gd_d (k3 (s' _ _ _)), e0, if_pos (Int32.le_refl _)]
/-- how the search for bells ends -/
def blE (f : Nat → Int32) (T F : Nat) (S : BS) (o : Option Nat) : Prop := ∃ j, S = bRun (okF (lI f) F) (nbB f) T j ∧ ((o = none ∧ ¬ j < S.2.2 ∧ S.1 F = none) ∨ (∃ k D, o = some D ∧ j = k + 1 ∧ k < (bRun (okF (lI f) F) (nbB f) T k).2.2 ∧ (bRun (okF (lI f) F) (nbB f) T k).1 F = none ∧ S.1 F = some D))
theorem x_bellsL (s : Sh h) (i : Inv f) (c : HR (zI h) 3 f) (q : aQ h A Q n) (hn : 8 ^ nG f ≤ n) {T F : Nat} (hT : T < 8 ^ nG f) (hF : F < 8 ^ nG f) (hTF : F ≠ T) {Fa Qa : Nat → Int32} (b : cR (piS (nG f)) (8 ^ nG f) (okF (lI f) F) (bIn T) Fa Qa) : ∃ S o Fa' Qa', blE f T F S o ∧ iter (fun z : Int32 × Hp => F_X4_bellsTo_l94 50 3 (nI (piS (nG f) F)) z.1 z.2) FU (0, cB h A Q Fa Qa 1) = some (cB h A Q Fa' Qa' (nI S.2.2)) ∧ cR (piS (nG f)) (8 ^ nG f) (okF (lI f) F) S Fa' Qa' := by
  have g5 := iG5 i
  have r8 := iR8 i
  have p8 := pow8 g5
  obtain ⟨h1, h2, h3, h4, h5, h6, h7, h8, h9, h10⟩ := id q
  have po : piO (piS (nG f)) (8 ^ nG f) n := ⟨fun x y hx hy e => pi_inj hx hy e, fun y _ => Nat.lt_of_lt_of_le (piS_lt _ _) hn, hn⟩
  have nbl : ∀ x y, x < 8 ^ nG f → y ∈ nbB f x → y < 8 ^ nG f := fun x y hx hy => nbB_lt i hx hy
  have rv := fun k => (bRun_v (ok := okF (lI f) F) (nb := nbB f) hT nbl k).1
  have s' : ∀ Fa Qa c, Sh (cB h A Q Fa Qa c) := fun _ _ _ => s
  have rA : ∀ Fa Qa c, zR (cB h A Q Fa Qa c) 50 0 = some A := fun _ _ _ => h5
  have rQ : ∀ Fa Qa c, zR (cB h A Q Fa Qa c) 50 1 = some Q := fun _ _ _ => h6
  have kA : ∀ Fa Qa c, kd (cB h A Q Fa Qa c) A = 13 := fun _ _ _ => h7
  have kQ : ∀ Fa Qa c, kd (cB h A Q Fa Qa c) Q = 13 := fun _ _ _ => h8
  have lA : ∀ Fa Qa c, zl (cB h A Q Fa Qa c) A = n := fun _ _ _ => h9
  have lQ : ∀ Fa Qa c, zl (cB h A Q Fa Qa c) Q = n := fun _ _ _ => h10
  have pF := po.2.1 F hF
  have key := iter_ex (body := fun z : Int32 × Hp => F_X4_bellsTo_l94 50 3 (nI (piS (nG f) F)) z.1 z.2) (fun u z => ∃ j Fa Qa, z = (nI j, cB h A Q Fa Qa (nI (bRun (okF (lI f) F) (nbB f) T j).2.2)) ∧ cR (piS (nG f)) (8 ^ nG f) (okF (lI f) F) (bRun (okF (lI f) F) (nbB f) T j) Fa Qa ∧ j ≤ (bRun (okF (lI f) F) (nbB f) T j).2.2 ∧ u = 8 ^ nG f + 1 - j ∧ ((bRun (okF (lI f) F) (nbB f) T j).1 F = none ∨ ∃ k D, j = k + 1 ∧ k < (bRun (okF (lI f) F) (nbB f) T k).2.2 ∧ (bRun (okF (lI f) F) (nbB f) T k).1 F = none ∧ (bRun (okF (lI f) F) (nbB f) T j).1 F = some D)) (fun x => ∃ S o Fa' Qa', blE f T F S o ∧ x = cB h A Q Fa' Qa' (nI S.2.2) ∧ cR (piS (nG f)) (8 ^ nG f) (okF (lI f) F) S Fa' Qa') (fun u z hI => by
    obtain ⟨j, Fa, Qa, rfl, b, hj, rfl, st⟩ := hI
    have al := bV_all (rv j)
    show (∃ x, F_X4_bellsTo_l94 50 3 (nI (piS (nG f) F)) (nI j) (cB h A Q Fa Qa (nI (bRun (okF (lI f) F) (nbB f) T j).2.2)) = some (.inr x) ∧ _) ∨ (∃ z' j', j' < 8 ^ nG f + 1 - j ∧ F_X4_bellsTo_l94 50 3 (nI (piS (nG f) F)) (nI j) (cB h A Q Fa Qa (nI (bRun (okF (lI f) F) (nbB f) T j).2.2)) = some (.inl z') ∧ _)
    by_cases p : j < (bRun (okF (lI f) F) (nbB f) T j).2.2
    · have e0 : F_X4_bellsTo_l94 50 3 (nI (piS (nG f) F)) (nI j) (cB h A Q Fa Qa (nI (bRun (okF (lI f) F) (nbB f) T j).2.2)) = if fc ((bRun (okF (lI f) F) (nbB f) T j).1 F) true = -1 then ob2 (F_X4_sendGuests 50 (nI (piS (nG f) ((bRun (okF (lI f) F) (nbB f) T j).2.1 j))) 3 (cB h A Q Fa Qa (nI (bRun (okF (lI f) F) (nbB f) T j).2.2))) (fun _ h55 => some (.inl (nI (j + 1), h55))) else some (.inr (cB h A Q Fa Qa (nI (bRun (okF (lI f) F) (nbB f) T j).2.2))) := by
        unfold F_X4_bellsTo_l94
        rw [gd_d (k50 (s' _ _ _)), cB_c, if_neg (nI_ge p (by omega)), rQ, ob_s, gd_d (kQ _ _ _), lQ]
        show (if nI n ≤ nI j then _ else _) = _
        rw [if_neg (nI_ge (by omega) (by omega)), rA, ob_s, gd_d (kA _ _ _), lA, ix_t pF (by omega), gd_t, ncl (by omega), cB_A q, b.1 F hF, okF_F, ob_s, gd_d (kQ _ _ _), lQ, ix_t (by omega) (by omega), gd_t, ncl (by omega), cB_Q q, b.2 j p, nI_1]
      rcases st with st | ⟨k, D, rfl, k1, k2, k3⟩
      · right
        obtain ⟨F2, Q2, e2, b2⟩ := x_sendG s i c q po (rv j) p b (nbf := fun g r => nbr (nG f) ((bRun (okF (lI f) F) (nbB f) T j).2.1 j) g r) (fun g r hg hr => ⟨pi_nbr hg (by omega), nbr_lt ((rv j).2.1 j p).1 hg (by omega), mem_nbB.mpr ⟨g, hg, r, hr, rfl⟩⟩)
        have er : bRun (okF (lI f) F) (nbB f) T (j + 1) = (cl (fun g => cl (fun r => [nbr (nG f) ((bRun (okF (lI f) F) (nbB f) T j).2.1 j) g r]) (nR f)) (nG f)).foldl (bst (okF (lI f) F) (dd (bRun (okF (lI f) F) (nbB f) T j) j + 1)) (bRun (okF (lI f) F) (nbB f) T j) := bRun_s p
        rw [← er] at e2 b2
        rw [e0, st, if_pos (show fc none true = -1 from rfl), e2, ob2_s]
        have x1 := (bRun_x (ok := okF (lI f) F) (nb := nbB f) hT nbl j 1).1.1
        refine ⟨_, 8 ^ nG f + 1 - (j + 1), by omega, rfl, j + 1, F2, Q2, rfl, b2, by omega, rfl, ?_⟩
        cases d : (bRun (okF (lI f) F) (nbB f) T (j + 1)).1 F with
        | none => exact Or.inl rfl
        | some D => exact Or.inr ⟨j, D, rfl, p, st, rfl⟩
      · left
        rw [e0, k3, if_neg (show ¬ fc (some D) true = -1 from neg1_nI (by have := bV_b (rv (k + 1)) k3; omega))]
        exact ⟨_, rfl, _, some D, Fa, Qa, ⟨k + 1, rfl, Or.inr ⟨k, D, rfl, rfl, k1, k2, k3⟩⟩, rfl, b⟩
    · left
      refine ⟨cB h A Q Fa Qa (nI (bRun (okF (lI f) F) (nbB f) T j).2.2), ?_, ?_⟩
      · unfold F_X4_bellsTo_l94
        rw [gd_d (k50 (s' _ _ _)), cB_c, if_pos (nI_le (by omega) (by omega))]
      · rcases st with st | ⟨k, D, rfl, k1, k2, k3⟩
        · exact ⟨_, none, Fa, Qa, ⟨j, rfl, Or.inl ⟨rfl, p, st⟩⟩, rfl, b⟩
        · exact ⟨_, some D, Fa, Qa, ⟨k + 1, rfl, Or.inr ⟨k, D, rfl, rfl, k1, k2, k3⟩⟩, rfl, b⟩) FU (8 ^ nG f + 1) (nI 0, cB h A Q Fa Qa (nI 1)) (FU_lt (by omega)) ⟨0, Fa, Qa, rfl, b, Nat.zero_le _, by omega, Or.inl (by
      show va_up (fun _ => none) T (some 0) F = none
      rw [va_n _ _ _ _ hTF])⟩
  obtain ⟨x, hx, S, o, F2, Q2, e1, rfl, b2⟩ := key
  exact ⟨S, o, F2, Q2, e1, hx, b2⟩
end SEND
