/-! THE STOVE: the states, and the class's search -/
section STOVEC
variable {h : Hp} {f : Nat → Int32}
def piT (n z : Nat) : Nat := piS n (z / 8) + z % 8 * 8 ^ n
theorem piT_lt {n z : Nat} : piT n z < 8 ^ (n + 1) := by
  have h1 := piS_lt n (z / 8)
  have h2 : z % 8 * 8 ^ n ≤ 7 * 8 ^ n := Nat.mul_le_mul_right _ (by omega)
  unfold piT
  rw [Nat.pow_succ]
  omega
theorem piT_dm {n z : Nat} : piT n z / 8 ^ n = z % 8 ∧ piT n z % 8 ^ n = piS n (z / 8) := by
  have h1 := piS_lt n (z / 8)
  have e : piT n z = 8 ^ n * (z % 8) + piS n (z / 8) := by
    unfold piT
    rw [Nat.mul_comm, Nat.add_comm]
  rw [e]
  exact ⟨by rw [Nat.mul_add_div (p8p n), Nat.div_eq_of_lt h1, Nat.add_zero], by rw [Nat.mul_add_mod, Nat.mod_eq_of_lt h1]⟩
theorem div8 {n z : Nat} (h : z < 8 ^ (n + 1)) : z / 8 < 8 ^ n := by
  rw [Nat.pow_succ] at h
  omega
theorem mul8 {n y q : Nat} (h : y < 8 ^ n) (hq : q < 8) : 8 * y + q < 8 ^ (n + 1) := by
  rw [Nat.pow_succ]
  omega
theorem piT_inj {n x y : Nat} (hx : x < 8 ^ (n + 1)) (hy : y < 8 ^ (n + 1)) (e : piT n x = piT n y) : x = y := by
  obtain ⟨a1, a2⟩ := piT_dm (n := n) (z := x)
  obtain ⟨b1, b2⟩ := piT_dm (n := n) (z := y)
  rw [e, b1] at a1
  rw [e, b2] at a2
  have := pi_inj (div8 hy) (div8 hx) a2
  omega
theorem piT_mk {n y q : Nat} (hq : q < 8) : piT n (8 * y + q) = piS n y + q * 8 ^ n := by
  unfold piT
  rw [show (8 * y + q) / 8 = y by omega, show (8 * y + q) % 8 = q by omega]
theorem rep_hi {n P q g r : Nat} (hP : P < 8 ^ n) (hg : g < n) : rep (P + q * 8 ^ n) g r = rep P g r + q * 8 ^ n := by
  have h1 := rep_sum (P + q * 8 ^ n) g r
  have h2 := rep_sum P g r
  have h3 : nd (P + q * 8 ^ n) g = nd P g := by
    rw [Nat.add_comm, Nat.mul_comm]
    exact nd_cut hg
  rw [h3] at h1
  omega
theorem piT_nbr {n z g r : Nat} (hg : g < n) (hr : r < 8) : piT n (8 * nbr n (z / 8) g r + z % 8) = rep (piT n z) g r := by
  rw [piT_mk (by omega), pi_nbr hg hr]
  unfold piT
  rw [rep_hi (piS_lt _ _) hg]
/-- one step off -/
def stp (f : Nat → Int32) (a b : Nat) : Bool := decide (jabs (f (11 + 4 * a) - f (11 + 4 * b)) + jabs (f (12 + 4 * a) - f (12 + 4 * b)) = 1)
def nbT1 (f : Nat → Int32) (z : Nat) : List Nat := cl (fun g => cl (fun r => [8 * nbr (nG f) (z / 8) g r + z % 8]) (nR f)) (nG f)
def nbT2 (f : Nat → Int32) (z R : Nat) : List Nat := cl (fun r => if stp f (z % 8) r then [8 * (z / 8) + r] else []) R
def nbT (f : Nat → Int32) (z : Nat) : List Nat := nbT1 f z ++ nbT2 f z (nR f)
def ok2 (f : Nat → Int32) (z : Nat) : Bool := decide (z % 8 < nR f) && lQ f (z % 8) (z / 8)
theorem mem_T1 {y z : Nat} : y ∈ nbT1 f z ↔ ∃ g, g < nG f ∧ ∃ r, r < nR f ∧ y = 8 * nbr (nG f) (z / 8) g r + z % 8 := by
  unfold nbT1
  rw [mem_cl]
  constructor
  · rintro ⟨g, hg, h⟩
    rw [mem_cl] at h
    obtain ⟨r, hr, h⟩ := h
    exact ⟨g, hg, r, hr, by simpa using h⟩
  · rintro ⟨g, hg, r, hr, h⟩
    refine ⟨g, hg, ?_⟩
    rw [mem_cl]
    exact ⟨r, hr, by simp [h]⟩
theorem mem_T2 {y z R : Nat} : y ∈ nbT2 f z R ↔ ∃ r, r < R ∧ stp f (z % 8) r = true ∧ y = 8 * (z / 8) + r := by
  unfold nbT2
  rw [mem_cl]
  constructor
  · rintro ⟨r, hr, h⟩
    cases p : stp f (z % 8) r with
    | false =>
      rw [p, if_neg (by decide)] at h
      cases h
    | true =>
      rw [p, if_pos rfl] at h
      exact ⟨r, hr, p, by simpa using h⟩
  · rintro ⟨r, hr, p, h⟩
    exact ⟨r, hr, by rw [p, if_pos rfl]; simp [h]⟩
theorem nbT_lt (i : Inv f) {x y : Nat} (hx : x < 8 ^ (nG f + 1)) (hy : y ∈ nbT f x) : y < 8 ^ (nG f + 1) := by
  have r8 := iR8 i
  have hd := div8 hx
  unfold nbT at hy
  rw [List.mem_append] at hy
  rcases hy with hy | hy
  · obtain ⟨g, hg, r, hr, rfl⟩ := mem_T1.mp hy
    exact mul8 (nbr_lt hd hg (by omega)) (by omega)
  · obtain ⟨r, hr, -, rfl⟩ := mem_T2.mp hy
    exact mul8 hd (by omega)
theorem x_isOneStep (s : Sh h) (c : HR (zI h) 3 f) {a b : Nat} (ha : a < 8) (hb : b < 8) : F_X2_isOneStep 3 (nI a) (nI b) h = some (b2 (stp f a b)) := by
  have a1 := c.2.1 a ha
  have b1 := c.2.1 b hb
  unfold F_X2_isOneStep F_X2_isOneStep_b0 F_X2_isOneStep_b42
  rw [gd_d (k3 s), r3_1 s, ob_s, gd_d (k4 s), l4 s, ix_t ha (by omega), gd_t, ob_s, gd_d (k4 s), l4 s, ix_t hb (by omega), gd_t, r3_2 s, ob_s, gd_d (k5 s), l5 s, ix_t ha (by omega), gd_t, ob_s, gd_d (k5 s), l5 s, ix_t hb (by omega), gd_t, ncl (by omega), ncl (by omega), a1.1, b1.1, a1.2.1, b1.2.1, z_g, o_g]
  unfold stp
  by_cases q : jabs (f (11 + 4 * a) - f (11 + 4 * b)) + jabs (f (12 + 4 * a) - f (12 + 4 * b)) = 1
  · rw [if_pos q, decide_eq_true q]
    rfl
  · rw [if_neg q, decide_eq_false q]
    rfl
theorem shrQ {j y : Nat} (hj : j < 5) (hy : y < 32768) : nI y >>> (((3 : Int32) * nI j) &&& 31) = nI (y / 8 ^ j) := by
  have e8 : 8 ^ j = 2 ^ (3 * j) := by rw [Nat.pow_mul]
  rw [e8]
  have : j = 0 ∨ j = 1 ∨ j = 2 ∨ j = 3 ∨ j = 4 := by omega
  rcases this with rfl | rfl | rfl | rfl | rfl
  · exact pk_shrN (by omega) _ 0 (by decide)
  · exact pk_shrN (by omega) _ 3 (by decide)
  · exact pk_shrN (by omega) _ 6 (by decide)
  · exact pk_shrN (by omega) _ 9 (by decide)
  · exact pk_shrN (by omega) _ 12 (by decide)
variable {A Q n : Nat}
theorem x_sendS (s : Sh h) (i : Inv f) (c : HR (zI h) 3 f) (q : aQ h A Q n) (hG : nG f < 5) (po : piO (piT (nG f)) (8 ^ (nG f + 1)) n) {T k : Nat} {S : BS} {Fa Qa : Nat → Int32} (v : bV (ok2 f) (nbT f) (8 ^ (nG f + 1)) T k S) (hk : k < S.2.2) (b : cR (piT (nG f)) (8 ^ (nG f + 1)) (ok2 f) S Fa Qa) : ∃ Fa' Qa', F_X4_sendStove 50 (nI (piT (nG f) (S.2.1 k))) ((3 : Int32) * nI (nG f)) 3 (cB h A Q Fa Qa (nI S.2.2)) = some ((), cB h A Q Fa' Qa' (nI ((nbT2 f (S.2.1 k) (nR f)).foldl (bst (ok2 f) (dd S k + 1)) S).2.2)) ∧ cR (piT (nG f)) (8 ^ (nG f + 1)) (ok2 f) ((nbT2 f (S.2.1 k) (nR f)).foldl (bst (ok2 f) (dd S k + 1)) S) Fa' Qa' := by
  have r8 := iR8 i
  obtain ⟨h1, h2, h3, h4, h5, h6, h7, h8, h9, h10⟩ := id q
  have s' : ∀ Fa Qa c, Sh (cB h A Q Fa Qa c) := fun _ _ _ => s
  have c' : ∀ Fa Qa x, HR (zI (cB h A Q Fa Qa x)) 3 f := fun _ _ _ => cB_h q i c
  have hx := (v.2.1 k hk).1
  have hp := po.2.1 _ hx
  have p8 : 8 ^ (nG f + 1) ≤ 32768 := pow8 (by omega)
  obtain ⟨dm1, dm2⟩ := piT_dm (n := nG f) (z := S.2.1 k)
  have px := piS_lt (nG f) (S.2.1 k / 8)
  have e1 : nI (piT (nG f) (S.2.1 k)) >>> (((3 : Int32) * nI (nG f)) &&& 31) = nI (S.2.1 k % 8) := by rw [shrQ hG (by omega), dm1]
  have e2 : nI (piT (nG f) (S.2.1 k)) - (nI (S.2.1 k % 8) <<< (((3 : Int32) * nI (nG f)) &&& 31)) = nI (piS (nG f) (S.2.1 k / 8)) := by
    rw [shl3 hG (by omega), nsub (by unfold piT; omega)]
    congr 1
    unfold piT
    omega
  have key := iter_cnt (body := fun z : Int32 × Hp => F_X4_sendStove_l16 50 (nI (piT (nG f) (S.2.1 k))) ((3 : Int32) * nI (nG f)) 3 (nI (S.2.1 k % 8)) (nI (piS (nG f) (S.2.1 k / 8))) z.1 z.2) (s0 := (0, cB h A Q Fa Qa (nI S.2.2))) (fun r z => ∃ Fa' Qa', z = (nI r, cB h A Q Fa' Qa' (nI ((nbT2 f (S.2.1 k) r).foldl (bst (ok2 f) (dd S k + 1)) S).2.2)) ∧ cR (piT (nG f)) (8 ^ (nG f + 1)) (ok2 f) ((nbT2 f (S.2.1 k) r).foldl (bst (ok2 f) (dd S k + 1)) S) Fa' Qa') (fun x => ∃ Fa' Qa', x = cB h A Q Fa' Qa' (nI ((nbT2 f (S.2.1 k) (nR f)).foldl (bst (ok2 f) (dd S k + 1)) S).2.2) ∧ cR (piT (nG f)) (8 ^ (nG f + 1)) (ok2 f) ((nbT2 f (S.2.1 k) (nR f)).foldl (bst (ok2 f) (dd S k + 1)) S) Fa' Qa') (nR f) (fun r z hr hI => ?_) (fun z hI => ?_) ⟨Fa, Qa, rfl, b⟩ (FU_lt (by omega))
  · obtain ⟨x, hx2, F', Q', hE, b'⟩ := key
    refine ⟨F', Q', ?_, b'⟩
    unfold F_X4_sendStove F_X4_sendStove_b0
    rw [e1, e2, hx2, ob_s, hE]
  · obtain ⟨F1, Q1, rfl, b1⟩ := hI
    obtain ⟨v1, x1, -, -⟩ := bst_f (ok := ok2 f) (nb := nbT f) (N := 8 ^ (nG f + 1)) (nbT2 f (S.2.1 k) r) v hk rfl (fun y hy => by
      obtain ⟨r', hr', p, rfl⟩ := mem_T2.mp hy
      have : 8 * (S.2.1 k / 8) + r' ∈ nbT f (S.2.1 k) := List.mem_append.mpr (Or.inr (mem_T2.mpr ⟨r', by omega, p, rfl⟩))
      exact ⟨this, nbT_lt i hx this⟩)
    have ek := bV_dd v x1 hk
    have eq := x1.2.1 k hk
    have es : nbT2 f (S.2.1 k) (r + 1) = nbT2 f (S.2.1 k) r ++ (if stp f (S.2.1 k % 8) r then [8 * (S.2.1 k / 8) + r] else []) := rfl
    rw [es, List.foldl_append]
    show ∃ z', F_X4_sendStove_l16 50 (nI (piT (nG f) (S.2.1 k))) ((3 : Int32) * nI (nG f)) 3 (nI (S.2.1 k % 8)) (nI (piS (nG f) (S.2.1 k / 8))) (nI r) (cB h A Q F1 Q1 (nI ((nbT2 f (S.2.1 k) r).foldl (bst (ok2 f) (dd S k + 1)) S).2.2)) = some (.inl z') ∧ _
    generalize (nbT2 f (S.2.1 k) r).foldl (bst (ok2 f) (dd S k + 1)) S = S1 at *
    have hk1 : k < S1.2.2 := Nat.lt_of_lt_of_le hk x1.1
    have e0 : zI (cB h A Q F1 Q1 (nI S1.2.2)) 3 0 = nI (nR f) := (c' _ _ _).1.1.trans (iR i)
    have rA : zR (cB h A Q F1 Q1 (nI S1.2.2)) 50 0 = some A := h5
    have kA : kd (cB h A Q F1 Q1 (nI S1.2.2)) A = 13 := h7
    have lA : zl (cB h A Q F1 Q1 (nI S1.2.2)) A = n := h9
    unfold F_X4_sendStove_l16 F_X4_sendStove_b55
    rw [gd_d (k3 (s' _ _ _)), e0, if_neg (nI_ge hr (by omega)), x_isOneStep (s' _ _ _) (c' _ _ _) (by omega) (by omega), ob_s, nI_1]
    cases p : stp f (S.2.1 k % 8) r with
    | false =>
      rw [b2_f, if_pos rfl]
      exact ⟨_, rfl, F1, Q1, rfl, b1⟩
    | true =>
      have hm : 8 * (S.2.1 k / 8) + r ∈ nbT f (S.2.1 k) := List.mem_append.mpr (Or.inr (mem_T2.mpr ⟨r, hr, p, rfl⟩))
      have hy := nbT_lt i hx hm
      obtain ⟨F2, Q2, e3, b2⟩ := x_reach s q po.1 po.2.1 po.2.2 v1 hk1 b1 hy (by rw [eq]; exact hm)
      rw [ek, piT_mk (by omega)] at e3
      rw [ek] at b2
      rw [b2_t, if_neg (by decide), gd_d (k50 (s' _ _ _)), rA, ob_s, gd_d kA, lA, ix_t hp (by omega), gd_t, ncl (by omega), cB_A q]
      have ef : F1 (piT (nG f) (S.2.1 k)) = nI (dd S k) := by
        have := b1.1 _ hx
        rw [← eq, bV_d v1 hk1, eq, ek] at this
        exact this
      rw [ef, nI_1, shl3 hG (by omega), nadd, e3, ob2_s]
      exact ⟨_, rfl, F2, Q2, rfl, b2⟩
  · obtain ⟨F1, Q1, rfl, b1⟩ := hI
    refine ⟨_, ?_, F1, Q1, rfl, b1⟩
    show F_X4_sendStove_l16 50 _ _ 3 _ _ (nI (nR f)) (cB h A Q F1 Q1 _) = _
    have e0 : zI (cB h A Q F1 Q1 (nI ((nbT2 f (S.2.1 k) (nR f)).foldl (bst (ok2 f) (dd S k + 1)) S).2.2)) 3 0 = nI (nR f) := (c' _ _ _).1.1.trans (iR i)
    unfold F_X4_sendStove_l16
    rw [gd_d (k3 (s' _ _ _)), e0, if_pos (Int32.le_refl _)]
/-- how a search for the stove ends -/
def stE (f : Nat → Int32) (T rm : Nat) (ans : Int32) : Prop := ∃ k, (∀ j, j < k → j < (bRun (ok2 f) (nbT f) T j).2.2 ∧ (bRun (ok2 f) (nbT f) T j).2.1 j % 8 ≠ rm) ∧ ((¬ k < (bRun (ok2 f) (nbT f) T k).2.2 ∧ ans = -1) ∨ (k < (bRun (ok2 f) (nbT f) T k).2.2 ∧ (bRun (ok2 f) (nbT f) T k).2.1 k % 8 = rm ∧ ans = nI (dd (bRun (ok2 f) (nbT f) T k) k)))
theorem stE_u {T rm : Nat} {a b : Int32} (h1 : stE f T rm a) (h2 : stE f T rm b) : a = b := by
  obtain ⟨k, a1, a2⟩ := h1
  obtain ⟨m, b1, b2⟩ := h2
  have : k = m := by
    rcases Nat.lt_trichotomy k m with q | q | q
    · obtain ⟨c1, c2⟩ := b1 k q
      rcases a2 with ⟨d, -⟩ | ⟨-, d, -⟩
      · exact absurd c1 d
      · exact absurd d c2
    · exact q
    · obtain ⟨c1, c2⟩ := a1 m q
      rcases b2 with ⟨d, -⟩ | ⟨-, d, -⟩
      · exact absurd c1 d
      · exact absurd d c2
  subst this
  rcases a2 with ⟨d, rfl⟩ | ⟨d, -, rfl⟩
  · rcases b2 with ⟨-, rfl⟩ | ⟨e, -, rfl⟩
    · rfl
    · exact absurd e d
  · rcases b2 with ⟨e, rfl⟩ | ⟨-, -, rfl⟩
    · exact absurd d e
    · rfl
theorem x_stoveL (s : Sh h) (i : Inv f) (c : HR (zI h) 3 f) (q : aQ h A Q n) (hG : nG f < 5) (hn : 8 ^ (nG f + 1) ≤ n) {T rm : Nat} (hT : T < 8 ^ (nG f + 1)) (hrm : rm < 8) {Fa Qa : Nat → Int32} (b : cR (piT (nG f)) (8 ^ (nG f + 1)) (ok2 f) (bIn T) Fa Qa) : ∃ ans Fa' Qa' cc x, stE f T rm ans ∧ iter (fun z : Int32 × Hp => F_X4_stoveTo_l112 50 (nI rm) 3 ((3 : Int32) * nI (nG f)) z.1 z.2) FU (0, cB h A Q Fa Qa 1) = some x ∧ ((ans = -1 ∧ x = .inl (cB h A Q Fa' Qa' cc)) ∨ (∃ w, w < n ∧ x = .inr (nI w, cB h A Q Fa' Qa' cc) ∧ Fa' w = ans)) := by
  have r8 := iR8 i
  have p8 : 8 ^ (nG f + 1) ≤ 32768 := pow8 (by omega)
  obtain ⟨h1, h2, h3, h4, h5, h6, h7, h8, h9, h10⟩ := id q
  have po : piO (piT (nG f)) (8 ^ (nG f + 1)) n := ⟨fun x y hx hy e => piT_inj hx hy e, fun y _ => Nat.lt_of_lt_of_le piT_lt hn, hn⟩
  have nbl : ∀ x y, x < 8 ^ (nG f + 1) → y ∈ nbT f x → y < 8 ^ (nG f + 1) := fun x y hx hy => nbT_lt i hx hy
  have rv := fun k => (bRun_v (ok := ok2 f) (nb := nbT f) hT nbl k).1
  have s' : ∀ Fa Qa c, Sh (cB h A Q Fa Qa c) := fun _ _ _ => s
  have rQ : ∀ Fa Qa c, zR (cB h A Q Fa Qa c) 50 1 = some Q := fun _ _ _ => h6
  have kQ : ∀ Fa Qa c, kd (cB h A Q Fa Qa c) Q = 13 := fun _ _ _ => h8
  have lQ' : ∀ Fa Qa c, zl (cB h A Q Fa Qa c) Q = n := fun _ _ _ => h10
  have key := iter_ex (body := fun z : Int32 × Hp => F_X4_stoveTo_l112 50 (nI rm) 3 ((3 : Int32) * nI (nG f)) z.1 z.2) (fun u z => ∃ j Fa Qa, z = (nI j, cB h A Q Fa Qa (nI (bRun (ok2 f) (nbT f) T j).2.2)) ∧ cR (piT (nG f)) (8 ^ (nG f + 1)) (ok2 f) (bRun (ok2 f) (nbT f) T j) Fa Qa ∧ j ≤ (bRun (ok2 f) (nbT f) T j).2.2 ∧ u = 8 ^ (nG f + 1) + 1 - j ∧ ∀ m, m < j → m < (bRun (ok2 f) (nbT f) T m).2.2 ∧ (bRun (ok2 f) (nbT f) T m).2.1 m % 8 ≠ rm) (fun x => ∃ ans Fa' Qa' cc, stE f T rm ans ∧ ((ans = -1 ∧ x = .inl (cB h A Q Fa' Qa' cc)) ∨ (∃ w, w < n ∧ x = .inr (nI w, cB h A Q Fa' Qa' cc) ∧ Fa' w = ans))) (fun u z hI => by
    obtain ⟨j, Fa, Qa, rfl, b, hj, rfl, st⟩ := hI
    have al := bV_all (rv j)
    show (∃ x, F_X4_stoveTo_l112 50 (nI rm) 3 ((3 : Int32) * nI (nG f)) (nI j) (cB h A Q Fa Qa (nI (bRun (ok2 f) (nbT f) T j).2.2)) = some (.inr x) ∧ _) ∨ (∃ z' j', j' < 8 ^ (nG f + 1) + 1 - j ∧ F_X4_stoveTo_l112 50 (nI rm) 3 ((3 : Int32) * nI (nG f)) (nI j) (cB h A Q Fa Qa (nI (bRun (ok2 f) (nbT f) T j).2.2)) = some (.inl z') ∧ _)
    by_cases p : j < (bRun (ok2 f) (nbT f) T j).2.2
    · have hx := ((rv j).2.1 j p).1
      have px := po.2.1 _ hx
      obtain ⟨dm1, -⟩ := piT_dm (n := nG f) (z := (bRun (ok2 f) (nbT f) T j).2.1 j)
      obtain ⟨F2, Q2, e2, b2⟩ := x_sendG s i c q po (rv j) p b (nbf := fun g r => 8 * nbr (nG f) ((bRun (ok2 f) (nbT f) T j).2.1 j / 8) g r + (bRun (ok2 f) (nbT f) T j).2.1 j % 8) (fun g r hg hr => by
        have hm : 8 * nbr (nG f) ((bRun (ok2 f) (nbT f) T j).2.1 j / 8) g r + (bRun (ok2 f) (nbT f) T j).2.1 j % 8 ∈ nbT f ((bRun (ok2 f) (nbT f) T j).2.1 j) := List.mem_append.mpr (Or.inl (mem_T1.mpr ⟨g, hg, r, hr, rfl⟩))
        exact ⟨piT_nbr hg (by omega), nbT_lt i hx hm, hm⟩)
      change F_X4_sendGuests 50 (nI (piT (nG f) ((bRun (ok2 f) (nbT f) T j).2.1 j))) 3 (cB h A Q Fa Qa (nI (bRun (ok2 f) (nbT f) T j).2.2)) = some ((), cB h A Q F2 Q2 (nI ((nbT1 f ((bRun (ok2 f) (nbT f) T j).2.1 j)).foldl (bst (ok2 f) (dd (bRun (ok2 f) (nbT f) T j) j + 1)) (bRun (ok2 f) (nbT f) T j)).2.2)) at e2
      change cR (piT (nG f)) (8 ^ (nG f + 1)) (ok2 f) ((nbT1 f ((bRun (ok2 f) (nbT f) T j).2.1 j)).foldl (bst (ok2 f) (dd (bRun (ok2 f) (nbT f) T j) j + 1)) (bRun (ok2 f) (nbT f) T j)) F2 Q2 at b2
      obtain ⟨v1, x1, -, -⟩ := bst_f (ok := ok2 f) (nb := nbT f) (N := 8 ^ (nG f + 1)) (nbT1 f ((bRun (ok2 f) (nbT f) T j).2.1 j)) (rv j) p rfl (fun y hy => by
        have hm : y ∈ nbT f ((bRun (ok2 f) (nbT f) T j).2.1 j) := List.mem_append.mpr (Or.inl hy)
        exact ⟨hm, nbT_lt i hx hm⟩)
      have ek := bV_dd (rv j) x1 p
      have eq := x1.2.1 j p
      have er : bRun (ok2 f) (nbT f) T (j + 1) = (nbT2 f ((bRun (ok2 f) (nbT f) T j).2.1 j) (nR f)).foldl (bst (ok2 f) (dd (bRun (ok2 f) (nbT f) T j) j + 1)) ((nbT1 f ((bRun (ok2 f) (nbT f) T j).2.1 j)).foldl (bst (ok2 f) (dd (bRun (ok2 f) (nbT f) T j) j + 1)) (bRun (ok2 f) (nbT f) T j)) := by
        rw [bRun_s p]
        unfold bK nbT
        rw [List.foldl_append]
      obtain ⟨F3, Q3, e3, b3⟩ := x_sendS s i c q hG po v1 (Nat.lt_of_lt_of_le p x1.1) b2
      rw [ek, eq, ← er] at e3 b3
      have e0 : F_X4_stoveTo_l112 50 (nI rm) 3 ((3 : Int32) * nI (nG f)) (nI j) (cB h A Q Fa Qa (nI (bRun (ok2 f) (nbT f) T j).2.2)) = if (bRun (ok2 f) (nbT f) T j).2.1 j % 8 = rm then some (.inr (.inr (nI (piT (nG f) ((bRun (ok2 f) (nbT f) T j).2.1 j)), cB h A Q Fa Qa (nI (bRun (ok2 f) (nbT f) T j).2.2)))) else some (.inl (nI (j + 1), cB h A Q F3 Q3 (nI (bRun (ok2 f) (nbT f) T (j + 1)).2.2))) := by
        unfold F_X4_stoveTo_l112
        rw [gd_d (k50 (s' _ _ _)), cB_c, if_neg (nI_ge p (by omega)), rQ, ob_s, gd_d (kQ _ _ _), lQ']
        show (if nI n ≤ nI j then _ else _) = _
        rw [if_neg (nI_ge (by omega) (by omega)), ob_s, gd_d (kQ _ _ _), lQ', ix_t (by omega) (by omega), gd_t, ncl (by omega), cB_Q q, b.2 j p, shrQ hG (by omega), dm1, e2, ob2_s, e3, ob2_s, gd_d (k50 (s' _ _ _)), nI_1]
        by_cases z : (bRun (ok2 f) (nbT f) T j).2.1 j % 8 = rm
        · rw [if_pos z, if_pos (by rw [z])]
        · rw [if_neg z, if_neg (fun w => z ((nI_eq (by omega) (by omega)).mp w))]
      by_cases z : (bRun (ok2 f) (nbT f) T j).2.1 j % 8 = rm
      · left
        rw [if_pos z] at e0
        refine ⟨_, e0, nI (dd (bRun (ok2 f) (nbT f) T j) j), Fa, Qa, _, ⟨j, st, Or.inr ⟨p, z, rfl⟩⟩, Or.inr ⟨_, px, rfl, ?_⟩⟩
        rw [b.1 _ hx, bV_d (rv j) p]
        rfl
      · right
        rw [if_neg z] at e0
        have x2 := (bRun_x (ok := ok2 f) (nb := nbT f) hT nbl j 1).1.1
        refine ⟨_, 8 ^ (nG f + 1) + 1 - (j + 1), by omega, e0, j + 1, F3, Q3, rfl, b3, by omega, rfl, fun m hm => ?_⟩
        by_cases e : m = j
        · subst e
          exact ⟨p, z⟩
        · exact st m (by omega)
    · left
      refine ⟨.inl (cB h A Q Fa Qa (nI (bRun (ok2 f) (nbT f) T j).2.2)), ?_, -1, Fa, Qa, _, ⟨j, st, Or.inl ⟨p, rfl⟩⟩, Or.inl ⟨rfl, rfl⟩⟩
      unfold F_X4_stoveTo_l112
      rw [gd_d (k50 (s' _ _ _)), cB_c, if_pos (nI_le (by omega) (by omega))]) FU (8 ^ (nG f + 1) + 1) (nI 0, cB h A Q Fa Qa (nI 1)) (FU_lt (by omega)) ⟨0, Fa, Qa, rfl, b, Nat.zero_le _, by omega, fun m hm => absurd hm (by omega)⟩
  obtain ⟨x, hx, ans, F2, Q2, cc, e1, e2⟩ := key
  exact ⟨ans, F2, Q2, cc, x, e1, hx, e2⟩
end STOVEC
