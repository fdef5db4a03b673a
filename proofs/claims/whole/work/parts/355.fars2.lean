/-! THE REFERENCE: bells -/
/-- the least of the neighbours' -/
def lsU (fr : Nat → Option Nat) (F : Nat) (acc : Option Nat) (o : Nat) : Option Nat := if o = F then acc else match fr o with
  | none => acc
  | some d => match acc with
    | none => some (d + 1)
    | some a => if a ≤ d + 1 then some a else some (d + 1)
section LS
variable {fr : Nat → Option Nat} {F D : Nat}
def geD (D : Nat) (a : Option Nat) : Prop := ∀ x, a = some x → D ≤ x
theorem lsU_ge {a : Option Nat} {o : Nat} (h : geD D a) (ho : o ≠ F → ∀ d, fr o = some d → D ≤ d + 1) : geD D (lsU fr F a o) := by
  unfold lsU
  by_cases q : o = F
  · rw [if_pos q]
    exact h
  · rw [if_neg q]
    cases c : fr o with
    | none => exact h
    | some d =>
      have := ho q d c
      cases a with
      | none =>
        intro x hx
        cases hx
        exact this
      | some b =>
        dsimp only
        by_cases p : b ≤ d + 1
        · rw [if_pos p]
          exact h
        · rw [if_neg p]
          intro x hx
          cases hx
          exact this
theorem lsU_eq {o : Nat} (ho : o ≠ F → ∀ d, fr o = some d → D ≤ d + 1) : lsU fr F (some D) o = some D := by
  unfold lsU
  by_cases q : o = F
  · rw [if_pos q]
  · rw [if_neg q]
    cases c : fr o with
    | none => rfl
    | some d =>
      dsimp only
      rw [if_pos (ho q d c)]
theorem ls_stay : ∀ (L : List Nat), (∀ o, o ∈ L → o ≠ F → ∀ d, fr o = some d → D ≤ d + 1) → L.foldl (lsU fr F) (some D) = some D
  | [], _ => rfl
  | o :: L, h => by
    show L.foldl (lsU fr F) (lsU fr F (some D) o) = some D
    rw [lsU_eq (h o (by simp))]
    exact ls_stay L (fun x hx => h x (by simp [hx]))
theorem ls_hit (hD : 0 < D) : ∀ (L : List Nat) {a : Option Nat}, geD D a → (∀ o, o ∈ L → o ≠ F → ∀ d, fr o = some d → D ≤ d + 1) → (∃ o, o ∈ L ∧ o ≠ F ∧ fr o = some (D - 1)) → L.foldl (lsU fr F) a = some D
  | [], _, _, _, h => by
    obtain ⟨o, ho, -⟩ := h
    cases ho
  | o :: L, a, ha, h, hx => by
    show L.foldl (lsU fr F) (lsU fr F a o) = some D
    by_cases q : o ≠ F ∧ fr o = some (D - 1)
    · have e : lsU fr F a o = some D := by
        unfold lsU
        rw [if_neg q.1, q.2]
        cases a with
        | none =>
          show some (D - 1 + 1) = some D
          rw [show D - 1 + 1 = D by omega]
        | some b =>
          have := ha b rfl
          dsimp only
          rw [show D - 1 + 1 = D by omega]
          by_cases p : b ≤ D
          · rw [if_pos p, show b = D by omega]
          · rw [if_neg p]
      rw [e]
      exact ls_stay L (fun x hx => h x (by simp [hx]))
    · refine ls_hit hD L (lsU_ge ha (h o (by simp))) (fun x hx => h x (by simp [hx])) ?_
      obtain ⟨x, h1, h2, h3⟩ := hx
      rcases List.mem_cons.mp h1 with rfl | h1
      · exact absurd ⟨h2, h3⟩ q
      · exact ⟨x, h1, h2, h3⟩
theorem ls_no : ∀ (L : List Nat), (∀ o, o ∈ L → fr o = none) → L.foldl (lsU fr F) none = none
  | [], _ => rfl
  | o :: L, h => by
    show L.foldl (lsU fr F) (lsU fr F none o) = none
    have e : lsU fr F none o = none := by
      unfold lsU
      rw [h o (by simp)]
      by_cases q : o = F
      · rw [if_pos q]
      · rw [if_neg q]
    rw [e]
    exact ls_no L (fun x hx => h x (by simp [hx]))
theorem ls_bd {B : Nat} (hf : ∀ o d, fr o = some d → d < B) : ∀ (L : List Nat) {a : Option Nat}, (∀ x, a = some x → x ≤ B) → ∀ x, L.foldl (lsU fr F) a = some x → x ≤ B
  | [], _, ha => ha
  | o :: L, a, ha => ls_bd hf L (fun x hx => by
    unfold lsU at hx
    by_cases q : o = F
    · rw [if_pos q] at hx
      exact ha x hx
    · rw [if_neg q] at hx
      cases c : fr o with
      | none =>
        rw [c] at hx
        exact ha x hx
      | some d =>
        rw [c] at hx
        have := hf o d c
        cases a with
        | none =>
          cases hx
          omega
        | some b =>
          dsimp only at hx
          by_cases p : b ≤ d + 1
          · rw [if_pos p] at hx
            exact ha x hx
          · rw [if_neg p] at hx
            cases hx
            omega)
end LS
section FARS2
variable {h : Hp} {f : Nat → Int32}
/-- what the reference's far tells when it has looked from T -/
def frO (f : Nat → Int32) (T : Nat) (fr : Nat → Option Nat) : Prop := (lI f T = false ∧ ∀ y, fr y = none) ∨ (lI f T = true ∧ ∃ K, ¬ K < (bRun (lI f) (nbB f) T K).2.2 ∧ fr = (bRun (lI f) (nbB f) T K).1)
theorem frO_bd (i : Inv f) {T : Nat} {fr : Nat → Option Nat} (hT : T < 8 ^ nG f) (o : frO f T fr) : ∀ y d, fr y = some d → d < 32768 := by
  intro y d hy
  have p8 := pow8 (iG5 i)
  rcases o with ⟨-, o⟩ | ⟨-, K, -, rfl⟩
  · rw [o y] at hy
    cases hy
  · obtain ⟨v, -⟩ := bRun_v (ok := lI f) (nb := nbB f) hT (fun x y hx hy => nbB_lt i hx hy) K
    obtain ⟨j, hj, ej⟩ := v.2.2.1 _ _ hy
    have h1 := bV_d v hj
    rw [ej, hy] at h1
    cases h1
    have := bV_dj v hj
    have := bV_all v
    omega
theorem m_fars (s : Sh h) (e60 : zI h 60 = f) (i : Inv f) (lv : ∀ k, k < 8 ^ nG f → zI h 69 k = b2 (lI f k)) {T : Nat} (hT : T < 8 ^ nG f) (F Q : Nat → Int32) : ∃ F' Q' fr, F_X12_fars 59 (nI T) (mB h F Q) = some ((), mB h F' Q') ∧ (∀ y, y < 8 ^ nG f → F' y = fe (fr y)) ∧ frO f T fr := by
  have g5 := iG5 i
  have p8 := pow8 g5
  have s' : ∀ F Q, Sh (mB h F Q) := fun _ _ => s
  have e60' : ∀ F Q, zI (mB h F Q) 60 = f := fun _ _ => by rw [mB_o (by decide) (by decide), e60]
  have l2 : iter (fun z : Int32 × Hp => F_X12_fars_l2 59 (nI T) z.1 z.2) FU (0, mB h F Q) = some (mB h (fillF (fun _ => -1) F (8 ^ nG f)) Q) := by
    refine iter_at (fun j => (nI j, mB h (fillF (fun _ => -1) F j) Q)) (8 ^ nG f) _ (by rw [fill_0]; rfl) (fun j hj => ?_) ?_ (FU_lt (by omega))
    · show F_X12_fars_l2 59 (nI T) (nI j) (mB h (fillF (fun _ => -1) F j) Q) = _
      unfold F_X12_fars_l2
      rw [m_many (s' _ _) (e60' _ _) i, ob_s, gd_d (k59 (s' _ _)), if_neg (nI_ge hj (by omega)), r59_21 (s' _ _), ob_s, gd_d (k70 (s' _ _)), l70 (s' _ _), ix_t (by omega) (by omega), gd_t, ncl (by omega), mB_w70, nI_1]
      have := fill_up (a := fun _ => -1) (b := F) (j := j)
      rw [← this]
    · show F_X12_fars_l2 59 (nI T) (nI (8 ^ nG f)) _ = _
      unfold F_X12_fars_l2
      rw [m_many (s' _ _) (e60' _ _) i, ob_s, gd_d (k59 (s' _ _)), if_pos (Int32.le_refl _)]
  have hfl : ∀ y, y < 8 ^ nG f → fillF (fun _ => -1) F (8 ^ nG f) y = -1 := fun y hy => fill_in hy
  generalize fillF (fun _ => -1) F (8 ^ nG f) = F1 at *
  unfold F_X12_fars F_X12_fars_b0
  rw [l2, ob_s, gd_d (k59 (s' _ _)), r59_20 (s' _ _), ob_s, gd_d (k69 (s' _ _)), l69 (s' _ _), ix_t (by omega) (by omega), gd_t, ncl (by omega), mB_o (a := 69) (by decide) (by decide), lv T hT]
  cases l : lI f T with
  | false =>
    rw [b2_f, if_pos rfl]
    exact ⟨F1, Q, fun _ => none, rfl, hfl, Or.inl ⟨l, fun _ => rfl⟩⟩
  | true =>
    have b0 : rB (8 ^ nG f) (bRun (lI f) (nbB f) T 0) (va_up F1 T 0) (va_up Q 0 (nI T)) := by
      constructor
      · intro y hy
        show va_up F1 T 0 y = fe (va_up (fun _ => none) T (some 0) y)
        by_cases e : y = T
        · subst e
          rw [va_e, va_e]
          rfl
        · rw [va_n _ _ _ _ e, va_n _ _ _ _ e, hfl y hy]
          rfl
      · intro j hj
        have : j < 1 := hj
        have : j = 0 := by omega
        subst this
        rw [va_e]
        rfl
    have rv := fun k => (bRun_v (ok := lI f) (nb := nbB f) hT (fun x y hx hy => nbB_lt i hx hy) k).1
    rw [b2_t, if_neg (by decide), r59_21 (s' _ _), ob_s, gd_d (k70 (s' _ _)), l70 (s' _ _), ix_t (by omega) (by omega), gd_t, mB_w70, r59_22 (s' _ _), ob_s, gd_d (k71 (s' _ _)), l71 (s' _ _), show ix (0 : Int32) 32768 = true from by decide, gd_t, show ((0 : Int32)).toNatClampNeg = 0 from by decide, mB_w71]
    have key := iter_ex (body := fun z : Int32 × Int32 × Hp => F_X12_fars_l51 59 z.1 z.2.1 z.2.2) (fun u z => ∃ k F Q, z = (nI (bRun (lI f) (nbB f) T k).2.2, nI k, mB h F Q) ∧ rB (8 ^ nG f) (bRun (lI f) (nbB f) T k) F Q ∧ k ≤ (bRun (lI f) (nbB f) T k).2.2 ∧ u = 8 ^ nG f - k) (fun x => ∃ K F Q, x = mB h F Q ∧ rB (8 ^ nG f) (bRun (lI f) (nbB f) T K) F Q ∧ ¬ K < (bRun (lI f) (nbB f) T K).2.2) (fun u z hI => by
      obtain ⟨k, F, Q, rfl, b, hk, rfl⟩ := hI
      have al := bV_all (rv k)
      by_cases q : k < (bRun (lI f) (nbB f) T k).2.2
      · right
        obtain ⟨F2, Q2, e2, b2⟩ := m_farG s e60 i lv (rv k) q b
        have e3 : F_X12_fars_l51 59 (nI (bRun (lI f) (nbB f) T k).2.2) (nI k) (mB h F Q) = some (.inl (nI (bRun (lI f) (nbB f) T (k + 1)).2.2, nI (k + 1), mB h F2 Q2)) := by
          unfold F_X12_fars_l51
          rw [if_neg (nI_ge q (by omega)), e2, ob_s, bRun_s q]
          show some (Sum.inl (_, nI k + 1, _)) = _
          rw [nI_1]
        have x1 := (bRun_x (ok := lI f) (nb := nbB f) hT (fun x y hx hy => nbB_lt i hx hy) k 1).1.1
        rw [← bRun_s q] at b2
        exact ⟨_, 8 ^ nG f - (k + 1), by omega, e3, k + 1, F2, Q2, rfl, b2, by omega, rfl⟩
      · left
        refine ⟨mB h F Q, ?_, k, F, Q, rfl, b, q⟩
        show F_X12_fars_l51 59 _ (nI k) (mB h F Q) = _
        unfold F_X12_fars_l51
        rw [if_pos (nI_le (by omega) (by omega))]) FU (8 ^ nG f) (nI 1, nI 0, mB h (va_up F1 T 0) (va_up Q 0 (nI T))) (FU_lt (by omega)) ⟨0, _, _, rfl, b0, Nat.zero_le _, by omega⟩
    obtain ⟨x, hx, K, F2, Q2, rfl, b2, hK⟩ := key
    refine ⟨F2, Q2, (bRun (lI f) (nbB f) T K).1, ?_, b2.1, Or.inr ⟨l, K, hK, rfl⟩⟩
    refine (ob_p hx _).trans rfl
/-- from y, by one guest's bells, by all -/
theorem m_bfR (s : Sh h) (e60 : zI h 60 = f) (i : Inv f) {F : Nat} (hF : F < 8 ^ nG f) {fr : Nat → Option Nat} (hfr : ∀ y, y < 8 ^ nG f → zI h 70 y = fe (fr y)) (hb : ∀ y d, fr y = some d → d < 32768) {g : Nat} (hg : g < nG f) {a : Option Nat} (ha : ∀ x, a = some x → x ≤ 32768) : iter (fun z : Int32 × Int32 => F_X12_bellsFrom_l24 59 (nI F) z.1 (nI g) z.2 h) FU (fe a, 0) = some (fe ((nbR f F g (nR f)).foldl (lsU fr F) a)) := by
  have r8 := iR8 i
  have p8 := pow8 (iG5 i)
  refine iter_at (fun r => (fe ((nbR f F g r).foldl (lsU fr F) a), nI r)) (nR f) _ rfl (fun r hr => ?_) ?_ (FU_lt (by omega))
  · show F_X12_bellsFrom_l24 59 (nI F) (fe ((nbR f F g r).foldl (lsU fr F) a)) (nI g) (nI r) h = some (.inl (fe ((nbR f F g (r + 1)).foldl (lsU fr F) a), nI (r + 1)))
    have bd := ls_bd (F := F) hb (nbR f F g r) ha
    have es : nbR f F g (r + 1) = nbR f F g r ++ [nbr (nG f) F g r] := rfl
    rw [es, List.foldl_append]
    generalize (nbR f F g r).foldl (lsU fr F) a = b at *
    have hy : nbr (nG f) F g r < 8 ^ nG f := nbr_lt hF hg (by omega)
    have er : zI h 60 0 = nI (nR f) := by rw [e60, iR i]
    unfold F_X12_bellsFrom_l24 F_X12_bellsFrom_b94 F_X12_bellsFrom_b93 F_X12_bellsFrom_b80 F_X12_bellsFrom_b93 F_X12_bellsFrom_b94
    rw [m_rooms s, ob_s, gd_d (k59 s), er, if_neg (nI_ge hr (by omega)), m_sent s e60 i hF hg (by omega), ob_s]
    generalize nbr (nG f) F g r = y at *
    simp (disch := omega) only [r59_21 s, k70 s, l70 s, k59 s, ix_t, ncl, hfr y hy, nI_1, gd_t, ob_s, ob2_s, ob4_s, sm_l, sm_r, ac_s, decide_true, decide_false, eq_self, ne_eq, not_false_eq_true, not_true_eq_false, if_true, if_false, ite_true, ite_false, reduceIte, or_true, true_or, or_false, false_or, and_true, true_and, Bool.false_eq_true, reduceCtorEq]
    show _ = some (Sum.inl (fe (lsU fr F b y), nI (r + 1)))
    unfold lsU
    by_cases q : y = F
    · rw [if_pos (by rw [q]), if_pos q]
    · rw [if_neg (fun z => q ((nI_eq (by omega) (by omega)).mp z)), if_neg q]
      cases c : fr y with
      | none =>
        rw [if_neg (show ¬ (0 : Int32) ≤ fe none by decide)]
      | some d =>
        have hd := hb y d c
        rw [if_pos (show 0 ≤ fe (some d) from nI_pos' (by omega))]
        cases b with
        | none =>
          rw [if_pos (show fe none < 0 by decide), fe_some, nI_1]
          rfl
        | some x =>
          have := bd x rfl
          rw [if_neg (show ¬ fe (some x) < 0 from nI_pos (by omega)), fe_some, fe_some, nI_1]
          dsimp only
          by_cases p : x ≤ d + 1
          · rw [if_pos (nI_le p (by omega)), if_pos p]
            rfl
          · rw [if_neg (nI_ge (by omega) (by omega)), if_neg p]
            rfl
  · show F_X12_bellsFrom_l24 59 (nI F) _ (nI g) (nI (nR f)) h = _
    have er : zI h 60 0 = nI (nR f) := by rw [e60, iR i]
    unfold F_X12_bellsFrom_l24
    rw [m_rooms s, ob_s, gd_d (k59 s), er, if_pos (Int32.le_refl _)]
theorem m_bellsFrom (s : Sh h) (e60 : zI h 60 = f) (i : Inv f) {F T : Nat} (hF : F < 8 ^ nG f) (hT : T < 8 ^ nG f) {fr : Nat → Option Nat} (hfr : ∀ y, y < 8 ^ nG f → zI h 70 y = fe (fr y)) (hb : ∀ y d, fr y = some d → d < 32768) : F_X12_bellsFrom 59 (nI F) (nI T) h = some (if F = T then 0 else fe ((nbB f F).foldl (lsU fr F) none)) := by
  have g5 := iG5 i
  have p8 := pow8 g5
  unfold F_X12_bellsFrom F_X12_bellsFrom_b0
  by_cases q : F = T
  · rw [if_pos (by rw [q]), if_pos q]
  · rw [if_neg (fun z => q ((nI_eq (by omega) (by omega)).mp z)), if_neg q]
    refine ob_p (iter_at (fun g => (fe ((cl (fun g => nbR f F g (nR f)) g).foldl (lsU fr F) none), nI g)) (nG f) _ rfl (fun g hg => ?_) ?_ (FU_lt (by omega))) _
    · show F_X12_bellsFrom_l12 59 (nI F) _ (nI g) h = _
      have er : zI h 60 1 = nI (nG f) := by rw [e60, iG i]
      unfold F_X12_bellsFrom_l12
      rw [m_guests s, ob_s, gd_d (k59 s), er, if_neg (nI_ge hg (by omega)), m_bfR s e60 i hF hfr hb hg (ls_bd hb _ (fun x hx => by cases hx)), ob_s, nI_1, cl_s, List.foldl_append]
    · show F_X12_bellsFrom_l12 59 (nI F) _ (nI (nG f)) h = _
      have er : zI h 60 1 = nI (nG f) := by rw [e60, iG i]
      unfold F_X12_bellsFrom_l12
      rw [m_guests s, ob_s, gd_d (k59 s), er, if_pos (Int32.le_refl _)]
      rfl
end FARS2
