/-! THE CLASS: what is level is open; the search -/
section OPEN
variable {h : Hp} {f : Nat → Int32}
/-- the i-th order is a seating and level, were the stove in q -/
def lQ (f : Nat → Int32) (q y : Nat) : Bool := vI f y && levS f (nq f q 0 (dg (nG f) y)) (nq f q 1 (dg (nG f) y)) (tin f)
theorem lQ_v {q y : Nat} (hv : vI f y = false) : lQ f q y = false := by
  unfold lQ
  rw [hv]
  rfl
def opO (f : Nat → Int32) (A q bs : Nat) (J : Nat → Nat → Int32) (P : Nat) (a : Nat → Nat → Int32) : Prop := (∀ b, b ≠ A → a b = J b) ∧ (∀ y, y < P → y < 8 ^ nG f → lQ f q y = true → a A (bs + piS (nG f) y) = -1) ∧ ∀ k, (∀ y, y < P → lQ f q y = true → k ≠ bs + piS (nG f) y) → a A k = J A k
theorem opO_s {A q bs : Nat} {J : Nat → Nat → Int32} (P : Nat) (a : Nat → Nat → Int32) (hv : vI f P = false) (o : opO f A q bs J P a) : opO f A q bs J (P + 1) a := by
  obtain ⟨o1, o2, o3⟩ := o
  refine ⟨o1, fun y h1 h2 h3 => ?_, fun k hk => o3 k (fun y h1 h2 => hk y (by omega) h2)⟩
  by_cases e : y = P
  · subst e
    rw [lQ_v hv] at h3
    cases h3
  · exact o2 y (by omega) h2 h3
theorem x_openLevel (s : Sh h) (i : Inv f) {A Q n : Nat} (p : Pt h A Q n) (hA : 73 ≤ A) (hn : n ≤ 32768) {J : Nat → Nat → Int32} (cJ : ∀ a : Nat → Nat → Int32, (∀ b, b ≠ A → a b = J b) → HR (zI (wI h a)) 3 f) {q bs : Nat} (hbs : bs + 8 ^ nG f ≤ n) {D S H : Nat → Int32} (w : wA f q D S H 0) : ∃ J' D' S' H', F_X4_openLevel 50 (nI bs) 3 45 (wK (wI h J) D S H) = some ((), wK (wI h J') D' S' H') ∧ opO f A q bs J (8 ^ nG f) J' := by
  have g5 := iG5 i
  have p8 := pow8 g5
  have sJ : ∀ J, Sh (wI h J) := fun _ => s
  have sK : ∀ J D S H, Sh (wK (wI h J) D S H) := fun _ _ _ _ => s
  have rA : ∀ J D S H, zR (wK (wI h J) D S H) 50 0 = some A := fun _ _ _ _ => p.1
  have kA : ∀ J D S H, kd (wK (wI h J) D S H) A = 13 := fun _ _ _ _ => p.2.2.1
  have lA : ∀ J D S H, zl (wK (wI h J) D S H) A = n := fun _ _ _ _ => p.2.2.2.2.1
  have key := walk_loop (f := f) i (body := fun z : Int32 × Hp => F_X4_openLevel_l3 50 (nI bs) 3 45 z.1 z.2) (fun (a : Nat → Nat → Int32) j D S H => (nI j, wK (wI h a) D S H)) q (fun P a => opO f A q bs J P a) (fun x => ∃ J' D' S' H', x = wK (wI h J') D' S' H' ∧ opO f A q bs J (8 ^ nG f) J') (fun a j D S H P hI hw hk2 hj => ?_) (fun a D S H hI => ?_) (a0 := J) ⟨fun _ _ => rfl, fun y hy => absurd hy (by omega), fun _ _ => rfl⟩ w
  · obtain ⟨x, hx, J', D', S', H', hE, hF⟩ := key
    refine ⟨J', D', S', H', ?_, hF⟩
    unfold F_X4_openLevel F_X4_openLevel_b0 F_X4_openLevel_b61
    rw [← hE]
    exact ob_p hx _
  · have ca := cJ a hI.1
    rcases x_adv (sJ a) i ca hw with ⟨y, D1, S1, H1, y1, y2, y3, y4, y5, y6, y7, y8⟩ | ⟨D1, S1, H1, y1, y2⟩
    · left
      have o : opO f A q bs J y a := skipV (I := fun P a => opO f A q bs J P a) opO_s hI y1 y3
      obtain ⟨n0, n1⟩ := wP_net y8
      have pl := piS_lt (nG f) y
      have eas : F_X2_asNumber 3 46 (wK (wI h a) D1 S1 H1) = some (nI (piS (nG f) y)) := x_asNumber (sK _ _ _ _) i (wK_c i ca) (k46 (sK _ _ _ _)) (l46 (sK _ _ _ _)) (wK_seat i y8)
      have el : lQ f q y = levS f (nq f q 0 (dg (nG f) y)) (nq f q 1 (dg (nG f) y)) (tin f) := by
        unfold lQ
        rw [y4]
        rfl
      have e0 : F_X4_openLevel_l3 50 (nI bs) 3 45 (nI j) (wK (wI h a) D S H) = if lQ f q y then some (.inl (nI (j + 1), wK (wI h (up2 a A (bs + piS (nG f) y) (-1))) D1 S1 H1)) else some (.inl (nI (j + 1), wK (wI h a) D1 S1 H1)) := by
        unfold F_X4_openLevel_l3 F_X4_openLevel_b55
        rw [nl_32768, if_neg (nI_ge hj (by omega)), y5, ob2_s, gd_d (k45 (sK _ _ _ _)), if_neg (by decide), gd_d (k45 (sK _ _ _ _)), r45_0 (sK _ _ _ _), ob_s, eas, ob_s, gd_d (k3 (sK _ _ _ _)), x_isLevelNow (sJ a) y7, ob_s, n0, n1, ← el, gd_d (k50 (sK _ _ _ _)), rA, ob_s, gd_d (kA _ _ _ _), lA, nadd, nI_1]
        show (if b2 (lQ f q y) = 0 then _ else if nI n ≤ nI (bs + piS (nG f) y) then _ else _) = _
        rw [if_neg (nI_ge (show bs + piS (nG f) y < n by omega) (by omega)), ob_s, gd_d (kA _ _ _ _), lA, ix_t (by omega) (by omega), gd_t, ncl (by omega), wK_so (by omega)]
        cases lQ f q y <;> rfl
      cases l : lQ f q y with
      | false =>
        rw [l, if_neg (by decide)] at e0
        refine ⟨y, a, D1, S1, H1, y1, y2, e0, y6, o.1, fun z h1 h2 h3 => ?_, fun k hk => o.2.2 k (fun z h1 h2 => hk z (by omega) h2)⟩
        by_cases e : z = y
        · subst e
          rw [l] at h3
          cases h3
        · exact o.2.1 z (by omega) h2 h3
      | true =>
        rw [l, if_pos rfl] at e0
        refine ⟨y, up2 a A (bs + piS (nG f) y) (-1), D1, S1, H1, y1, y2, e0, y6, fun b hb => ?_, fun z h1 h2 h3 => ?_, fun k hk => ?_⟩
        · rw [up2_a _ _ _ _ _ hb, o.1 b hb]
        · by_cases e : z = y
          · subst e
            rw [up2_e]
          · have : bs + piS (nG f) z ≠ bs + piS (nG f) y := fun q2 => e (pi_inj h2 y2 (by omega))
            rw [up2_k _ _ _ _ _ this]
            exact o.2.1 z (by omega) h2 h3
        · rw [up2_k _ _ _ _ _ (hk y (by omega) l)]
          exact o.2.2 k (fun z h1 h2 => hk z (by omega) h2)
    · right
      have o : opO f A q bs J (8 ^ nG f) a := skipV (I := fun P a => opO f A q bs J P a) opO_s hI (wA_le hw) y1
      refine ⟨wK (wI h a) D1 S1 H1, ?_, a, D1, S1, H1, rfl, o⟩
      show F_X4_openLevel_l3 50 (nI bs) 3 45 (nI j) (wK (wI h a) D S H) = _
      unfold F_X4_openLevel_l3
      rw [nl_32768, if_neg (nI_ge hj (by omega)), y2, ob2_s, gd_d (k45 (sK _ _ _ _)), if_pos rfl]
  · refine ⟨wK (wI h a) D S H, ?_, a, D, S, H, rfl, hI⟩
    show F_X4_openLevel_l3 50 (nI bs) 3 45 (nI 32768) (wK (wI h a) D S H) = _
    unfold F_X4_openLevel_l3
    rw [nl_32768, if_pos (Int32.le_refl _)]
end OPEN
section CBF
variable {h : Hp} {f : Nat → Int32} {A Q n : Nat}
def cB (h : Hp) (A Q : Nat) (Fa Qa : Nat → Int32) (c : Int32) : Hp := wI h (up2 (va_up (va_up (zI h) A Fa) Q Qa) 50 2 c)
/-- far and queue are two rows of n, apart from all else -/
def aQ (h : Hp) (A Q n : Nat) : Prop := 73 ≤ A ∧ 73 ≤ Q ∧ A ≠ Q ∧ n ≤ 32768 ∧ zR h 50 0 = some A ∧ zR h 50 1 = some Q ∧ kd h A = 13 ∧ kd h Q = 13 ∧ zl h A = n ∧ zl h Q = n
theorem cB_A (q : aQ h A Q n) {Fa Qa : Nat → Int32} {c : Int32} : zI (cB h A Q Fa Qa c) A = Fa := by
  unfold cB
  rw [wI_I, up2_a _ _ _ _ _ (by have := q.1; omega), va_n _ _ _ _ q.2.2.1, va_e]
theorem cB_Q (q : aQ h A Q n) {Fa Qa : Nat → Int32} {c : Int32} : zI (cB h A Q Fa Qa c) Q = Qa := by
  unfold cB
  rw [wI_I, up2_a _ _ _ _ _ (by have := q.2.1; omega), va_e]
theorem cB_c {Fa Qa : Nat → Int32} {c : Int32} : zI (cB h A Q Fa Qa c) 50 2 = c := by
  unfold cB
  rw [wI_I, up2_e]
theorem cB_o {Fa Qa : Nat → Int32} {c : Int32} {a : Nat} (h1 : a ≠ A) (h2 : a ≠ Q) (h3 : a ≠ 50) : zI (cB h A Q Fa Qa c) a = zI h a := by
  unfold cB
  rw [wI_I, up2_a _ _ _ _ _ h3, va_n _ _ _ _ h2, va_n _ _ _ _ h1]
theorem cB_wA (q : aQ h A Q n) {Fa Qa : Nat → Int32} {c : Int32} {k : Nat} {v : Int32} : setI (cB h A Q Fa Qa c) A k v = cB h A Q (va_up Fa k v) Qa c := by
  have h1 := q.1
  have h3 := q.2.2.1
  rw [setI_w]
  unfold cB
  show wI h _ = wI h _
  congr 1
  rw [wI_I]
  funext a
  by_cases e : a = A
  · subst e
    rw [up2_v1, up2_a _ _ _ _ _ (by omega), up2_a _ _ _ _ _ (by omega), va_n _ _ _ _ h3, va_n _ _ _ _ h3, va_e, va_e]
  · rw [up2_a _ _ _ _ _ e]
    by_cases e2 : a = 50
    · subst e2
      rw [up2_v1, up2_v1, va_n _ _ _ _ (by have := q.2.1; omega), va_n _ _ _ _ (by omega), va_n _ _ _ _ (by have := q.2.1; omega), va_n _ _ _ _ (by omega)]
    · rw [up2_a _ _ _ _ _ e2, up2_a _ _ _ _ _ e2]
      by_cases e3 : a = Q
      · subst e3
        rw [va_e, va_e]
      · rw [va_n _ _ _ _ e3, va_n _ _ _ _ e3, va_n _ _ _ _ e, va_n _ _ _ _ e]
theorem cB_wQ (q : aQ h A Q n) {Fa Qa : Nat → Int32} {c : Int32} {k : Nat} {v : Int32} : setI (cB h A Q Fa Qa c) Q k v = cB h A Q Fa (va_up Qa k v) c := by
  have h1 := q.2.1
  rw [setI_w]
  unfold cB
  show wI h _ = wI h _
  congr 1
  rw [wI_I]
  funext a
  by_cases e : a = Q
  · subst e
    rw [up2_v1, up2_a _ _ _ _ _ (by omega), up2_a _ _ _ _ _ (by omega), va_e, va_e]
  · rw [up2_a _ _ _ _ _ e]
    by_cases e2 : a = 50
    · subst e2
      rw [up2_v1, up2_v1, va_n _ _ _ _ e, va_n _ _ _ _ e]
    · rw [up2_a _ _ _ _ _ e2, up2_a _ _ _ _ _ e2, va_n _ _ _ _ e, va_n _ _ _ _ e]
theorem cB_wc {Fa Qa : Nat → Int32} {c v : Int32} : setI (cB h A Q Fa Qa c) 50 2 v = cB h A Q Fa Qa v := by
  rw [setI_w]
  unfold cB
  show wI h _ = wI h _
  congr 1
  rw [wI_I]
  funext a
  by_cases e : a = 50
  · subst e
    rw [up2_v1, up2_v1, up2_v1, va_va]
  · rw [up2_a _ _ _ _ _ e, up2_a _ _ _ _ _ e, up2_a _ _ _ _ _ e]
theorem cB_0 (q : aQ h A Q n) {c : Int32} : cB h A Q (zI h A) (zI h Q) c = setI h 50 2 c := by
  rw [setI_w]
  unfold cB
  rw [va_same, va_same]
def fc (o : Option Nat) (b : Bool) : Int32 := match o with
  | some d => nI d
  | none => if b then -1 else -2
/-- far and queue hold the state of the search, coded by pi -/
def cR (pi : Nat → Nat) (N : Nat) (ok : Nat → Bool) (S : BS) (Fa Qa : Nat → Int32) : Prop := (∀ y, y < N → Fa (pi y) = fc (S.1 y) (ok y)) ∧ ∀ j, j < S.2.2 → Qa j = nI (pi (S.2.1 j))
theorem cR_up {pi : Nat → Nat} {N : Nat} {ok : Nat → Bool} {S : BS} {Fa Qa : Nat → Int32} (inj : ∀ x y, x < N → y < N → pi x = pi y → x = y) (r : cR pi N ok S Fa Qa) {y v : Nat} (hy : y < N) : cR pi N ok (va_up S.1 y (some v), va_up S.2.1 S.2.2 y, S.2.2 + 1) (va_up Fa (pi y) (nI v)) (va_up Qa S.2.2 (nI (pi y))) := by
  constructor
  · intro z hz
    show va_up Fa (pi y) (nI v) (pi z) = fc (va_up S.1 y (some v) z) (ok z)
    by_cases e : z = y
    · subst e
      rw [va_e, va_e]
      rfl
    · rw [va_n _ _ _ _ (fun q => e (inj z y hz hy q)), va_n _ _ _ _ e]
      exact r.1 z hz
  · intro j hj
    show va_up Qa S.2.2 (nI (pi y)) j = nI (pi (va_up S.2.1 S.2.2 y j))
    have hj' : j < S.2.2 + 1 := hj
    by_cases e : j = S.2.2
    · subst e
      rw [va_e, va_e]
    · rw [va_n _ _ _ _ e, va_n _ _ _ _ e]
      exact r.2 j (by omega)
theorem fc_o {o : Option Nat} {b : Bool} (hd : ∀ d, o = some d → d < 2147483648) : fc o b = -1 ↔ b = true ∧ o = none := by
  cases o with
  | some d =>
    constructor
    · intro q
      exact absurd q (neg1_nI (hd d rfl))
    · intro q
      cases q.2
  | none =>
    cases b with
    | true => exact ⟨fun _ => ⟨rfl, rfl⟩, fun _ => rfl⟩
    | false =>
      constructor
      · intro q
        exact absurd q (by decide)
      · intro q
        cases q.1
theorem bV_b {ok : Nat → Bool} {nb : Nat → List Nat} {N T k : Nat} {S : BS} (v : bV ok nb N T k S) {y d : Nat} (e : S.1 y = some d) : d < S.2.2 := by
  obtain ⟨j, hj, ej⟩ := v.2.2.1 _ _ e
  have h1 := bV_d v hj
  rw [ej, e] at h1
  have h2 := Option.some.inj h1
  have := bV_dj v hj
  omega
theorem x_reach (s : Sh h) (q : aQ h A Q n) {pi : Nat → Nat} {N : Nat} {ok : Nat → Bool} {nb : Nat → List Nat} (inj : ∀ x y, x < N → y < N → pi x = pi y → x = y) (pl : ∀ y, y < N → pi y < n) (hN : N ≤ n) {T k : Nat} {S : BS} {Fa Qa : Nat → Int32} (v : bV ok nb N T k S) (hk : k < S.2.2) (b : cR pi N ok S Fa Qa) {y : Nat} (hy : y < N) (hm : y ∈ nb (S.2.1 k)) : ∃ Fa' Qa', F_X4_reach 50 (nI (pi y)) (nI (dd S k + 1)) (cB h A Q Fa Qa (nI S.2.2)) = some ((), cB h A Q Fa' Qa' (nI (bst ok (dd S k + 1) S y).2.2)) ∧ cR pi N ok (bst ok (dd S k + 1) S y) Fa' Qa' := by
  obtain ⟨h1, h2, h3, h4, h5, h6, h7, h8, h9, h10⟩ := id q
  have hp := pl y hy
  have al := bV_all v
  obtain ⟨v1, -, -, -⟩ := bst_v v hk hm hy
  have al1 := bV_all v1
  have s' : ∀ Fa Qa c, Sh (cB h A Q Fa Qa c) := fun _ _ _ => s
  have rA : ∀ Fa Qa c, zR (cB h A Q Fa Qa c) 50 0 = some A := fun _ _ _ => h5
  have rQ : ∀ Fa Qa c, zR (cB h A Q Fa Qa c) 50 1 = some Q := fun _ _ _ => h6
  have kA : ∀ Fa Qa c, kd (cB h A Q Fa Qa c) A = 13 := fun _ _ _ => h7
  have kQ : ∀ Fa Qa c, kd (cB h A Q Fa Qa c) Q = 13 := fun _ _ _ => h8
  have lA : ∀ Fa Qa c, zl (cB h A Q Fa Qa c) A = n := fun _ _ _ => h9
  have lQ : ∀ Fa Qa c, zl (cB h A Q Fa Qa c) Q = n := fun _ _ _ => h10
  unfold F_X4_reach F_X4_reach_b0 F_X4_reach_b49
  rw [gd_d (k50 (s' _ _ _)), rA, ob_s, gd_d (kA _ _ _), lA, ix_t hp (by omega), gd_t, ncl (by omega), cB_A q, b.1 y hy]
  by_cases p : ok y = true ∧ S.1 y = none
  · have e : bst ok (dd S k + 1) S y = (va_up S.1 y (some (dd S k + 1)), va_up S.2.1 S.2.2 y, S.2.2 + 1) := if_pos p
    have al2 : S.2.2 + 1 ≤ N := by
      rw [e] at al1
      exact al1
    refine ⟨va_up Fa (pi y) (nI (dd S k + 1)), va_up Qa S.2.2 (nI (pi y)), ?_, by rw [e]; exact cR_up inj b hy⟩
    rw [if_pos ((fc_o (fun d hd => by rw [p.2] at hd; cases hd)).mpr p), rQ, ob_s, gd_d (kQ _ _ _), lQ, cB_c]
    show (if nI n ≤ nI S.2.2 then _ else _) = _
    rw [if_neg (nI_ge (by omega) (by omega)), ob_s, gd_d (kA _ _ _), lA, ix_t hp (by omega), gd_t, cB_wA q, rQ, ob_s, gd_d (kQ _ _ _), lQ, cB_c, ix_t (by omega) (by omega), gd_t, ob_s, ncl (by omega), cB_wQ q, cB_c, cB_wc, nI_1, e]
  · have e : bst ok (dd S k + 1) S y = S := if_neg p
    refine ⟨Fa, Qa, ?_, by rw [e]; exact b⟩
    rw [if_neg (fun z => p ((fc_o (fun d hd => by have := bV_b v hd; omega)).mp z)), e]
end CBF
