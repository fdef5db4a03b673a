/-! THE REFERENCE: the call bells -/
section BELLM2
variable {h : Hp} {f : Nat → Int32}
def lefB (f : Nat → Int32) (fr : Nat → Option Nat) (T : Nat) : Option Nat := if ordS (sit f) (nG f) = T then some 0 else (nbB f (ordS (sit f) (nG f))).foldl (lsU fr (ordS (sit f) (nG f))) none
def beV (f : Nat → Int32) (fr : Nat → Option Nat) (T : Nat) (k : Int32) : Int32 := match lefB f fr T with
  | none => -1
  | some D => if k = -1 then nI D else if k < nI D then hdN (bl f fr D (ordS (sit f) (nG f)) k.toNatClampNeg) else -1
theorem beV_n {fr : Nat → Option Nat} {T : Nat} (k : Int32) (e : lefB f fr T = none) : beV f fr T k = -1 := by
  unfold beV
  rw [e]
theorem beV_s {fr : Nat → Option Nat} {T D : Nat} (k : Int32) (e : lefB f fr T = some D) : beV f fr T k = if k = -1 then nI D else if k < nI D then hdN (bl f fr D (ordS (sit f) (nG f)) k.toNatClampNeg) else -1 := by
  unfold beV
  rw [e]
def exB (f : Nat → Int32) (fr : Nat → Option Nat) (T : Nat) : Prop := ∀ D, lefB f fr T = some D → ∀ j, j < D → ∃ c L, bl f fr D (ordS (sit f) (nG f)) j = c :: L
theorem sit8 (i : Inv f) : ∀ g, g < nG f → sit f g < 8 := fun g hg => by
  have := (igs i g hg).2.2
  have := iR8 i
  omega
theorem m_b67 (s : Sh h) (e60 : zI h 60 = f) (i : Inv f) (lv : ∀ k, k < 8 ^ nG f → zI h 69 k = b2 (lI f k)) {T : Nat} (hT : T < 8 ^ nG f) {k : Int32} (hk : -1 ≤ k) : ∃ fr J, frO f T fr ∧ MN (zI h) J ∧ J 59 = zI h 59 ∧ (exB f fr T → F_X12_bells_b67 59 k (nI T) h = some (beV f fr T k, wI h J)) := by
  have p8 := pow8 (iG5 i)
  have hF : ordS (sit f) (nG f) < 8 ^ nG f := ordS_lt (sit8 i)
  obtain ⟨F1, Q1, fr, ef, hfr, of⟩ := m_fars s e60 i lv hT (zI h 70) (zI h 71)
  rw [mB_0] at ef
  have hb := frO_bd i hT of
  have sB : Sh (mB h F1 Q1) := s
  have e60B : zI (mB h F1 Q1) 60 = f := by rw [mB_o (by decide) (by decide), e60]
  have en := m_now sB e60B i
  have sN : Sh (stH (mB h F1 Q1) 66 (siF f (zI (mB h F1 Q1) 66))) := s
  have e60N : zI (stH (mB h F1 Q1) 66 (siF f (zI (mB h F1 Q1) 66))) 60 = f := by rw [stH_o (by decide), e60B]
  have hfrN : ∀ y, y < 8 ^ nG f → zI (stH (mB h F1 Q1) 66 (siF f (zI (mB h F1 Q1) 66))) 70 y = fe (fr y) := fun y hy => by
    rw [stH_o (by decide), mB_70]
    exact hfr y hy
  have ebf := m_bellsFrom sN e60N i hF hT hfrN hb
  refine ⟨fr, zI (stH (mB h F1 Q1) 66 (siF f (zI (mB h F1 Q1) 66))), of, fun a k q => ?_, ?_, fun ex => ?_⟩
  · rw [stH_o (by unfold mNo at q; omega), mB_o (by unfold mNo at q; omega) (by unfold mNo at q; omega)]
  · rw [stH_o (by decide), mB_o (by decide) (by decide)]
  · have el : (if ordS (sit f) (nG f) = T then (0 : Int32) else fe ((nbB f (ordS (sit f) (nG f))).foldl (lsU fr (ordS (sit f) (nG f))) none)) = fe (lefB f fr T) := by
      unfold lefB
      by_cases q : ordS (sit f) (nG f) = T
      · rw [if_pos q, if_pos q]
        rfl
      · rw [if_neg q, if_neg q]
    rw [el] at ebf
    have bd : ∀ x, lefB f fr T = some x → x ≤ 32768 := by
      unfold lefB
      by_cases q : ordS (sit f) (nG f) = T
      · rw [if_pos q]
        intro x hx
        cases hx
        omega
      · rw [if_neg q]
        exact ls_bd hb _ (fun x hx => by cases hx)
    unfold F_X12_bells_b67
    rw [if_pos (nI_pos' (by omega)), ef, ob2_s, gd_d (k59 s), en, ob2_s, gd_d (k59 sB), ebf, ob_s, gd_d (k59 sN)]
    unfold F_X12_bells_b109 F_X12_bells_b120
    cases c : lefB f fr T with
    | none =>
      rw [if_pos (show fe none < 0 by decide), beV_n k c]
      by_cases q : k = -1
      · rw [if_pos q]
        rfl
      · rw [if_neg q]
        rfl
    | some D =>
      have hD := bd D c
      rw [if_neg (show ¬ fe (some D) < 0 from nI_pos (by omega)), beV_s k c, fe_some]
      by_cases q : k = -1
      · rw [if_pos q, if_pos q, if_pos q]
        rfl
      · rw [if_neg q, if_neg q, if_neg q]
        by_cases p : k < nI D
        · rw [if_pos p, if_pos p]
          have hk0 : ¬ k < 0 := by
            intro z
            rw [fa_lt] at z
            rw [fa_le] at hk
            have z1 : (-1 : Int32).toInt = -1 := rfl
            have z0 : (0 : Int32).toInt = 0 := rfl
            exact q ((fa_eq _ _).mpr (by omega))
          obtain ⟨k0, hk1, rfl⟩ := nI_of hk0
          have hkD : k0 < D := (nI_ltI hk1 (by omega)).mp p
          rw [m_bellsL sN e60N i hF hD hkD hfrN hb (ex D c), ob_s, nI_clamp hk1]
          rfl
        · rw [if_neg p, if_neg p]
          rfl
/-- what is told as a seating -/
def tgB (f : Nat → Int32) (v : Int32) (T : Option Nat) : Prop := (v = -1 ∧ T = seB f (8 ^ nG f)) ∨ (∃ y, v = nI y ∧ y < 8 ^ nG f ∧ vS f (nd y) = true ∧ T = some (ordS (nd y) (nG f)))
def bdB (f : Nat → Int32) (v : Int32) : Prop := v ≠ -1 ∧ ∀ y, v = nI y → y < 8 ^ nG f → vS f (nd y) = false
theorem tg_or (i : Inv f) (v : Int32) : bdB f v ∨ ∃ T, tgB f v T := by
  have p8 := pow8 (iG5 i)
  by_cases q : v = -1
  · exact Or.inr ⟨_, Or.inl ⟨q, rfl⟩⟩
  · cases c : isIn v (8 ^ nG f) with
    | true =>
      obtain ⟨y, hy, rfl⟩ := isIn_of (by omega) c
      cases d : vS f (nd y) with
      | true => exact Or.inr ⟨_, Or.inr ⟨y, rfl, hy, d, rfl⟩⟩
      | false =>
        refine Or.inl ⟨q, fun z hz1 hz2 => ?_⟩
        have : y = z := (nI_eq (by omega) (by omega)).mp hz1
        subst this
        exact d
    | false => exact Or.inl ⟨q, fun y hy1 hy2 => absurd (by rw [hy1] at c; rw [isIn_nI hy2 (by omega)] at c; exact c) (by decide)⟩
theorem tg_lt (i : Inv f) {v : Int32} {T : Nat} (t : tgB f v (some T)) : T < 8 ^ nG f := by
  rcases t with ⟨-, t⟩ | ⟨y, -, -, -, t⟩
  · exact (seB_lt t.symm).1
  · cases t
    exact ordS_lt (fun g _ => nd_lt _ _)
theorem m_b40 (s : Sh h) (e60 : zI h 60 = f) (i : Inv f) (ok : allW f) {v k : Int32} (hk : -1 ≤ k) {T : Option Nat} {t : Int32} (tg : tgB f v T) (ht : v ≠ -1 → t = fe T) : (T = none → ∃ J, MN (zI h) J ∧ J 59 0 = zI h 59 0 ∧ F_X12_bells_b40 59 v k t 59 0 h = some (-1, wI h J)) ∧ (∀ T0, T = some T0 → ∃ fr J, frO f T0 fr ∧ MN (zI h) J ∧ J 59 0 = zI h 59 0 ∧ (exB f fr T0 → F_X12_bells_b40 59 v k t 59 0 h = some (beV f fr T0 k, wI h J))) := by
  have p8 := pow8 (iG5 i)
  have la := m_laysAll s e60 i
  have hBB : ∀ k, k < 8 ^ nG f → fillF (fun k => b2 (lI f k)) (zI h 69) (8 ^ nG f) k = b2 (lI f k) := fun k hk => fill_in hk
  generalize fillF (fun k => b2 (lI f k)) (zI h 69) (8 ^ nG f) = BB at la hBB
  rw [mS_mL] at la
  have s' : ∀ S V D, Sh (mS h S BB V D) := fun _ _ _ => s
  have e60' : ∀ S V D, zI (mS h S BB V D) 60 = f := fun _ _ _ => by rw [mS_o (by decide) (by decide) (by decide) (by decide), e60]
  have lv' : ∀ S V D k, k < 8 ^ nG f → zI (mS h S BB V D) 69 k = b2 (lI f k) := fun _ _ _ k hk => by
    rw [mS_69]
    exact hBB k hk
  by_cases q : v = -1
  · rcases tg with ⟨-, rfl⟩ | ⟨y, hy1, hy2, -⟩
    · obtain ⟨S1, V1, D1, ef, d23, d24, d25, dd⟩ := m_finds s e60 i ok (S := sqT f (zI h 66) (8 ^ nG f)) (V := zI h 67) (D := zI h 59) hBB
      have mm : MN (zI h) (zI (mS h S1 BB V1 D1)) := mS_m (fun k hk => dd k (by omega) (by omega) (by omega))
      have z0 : zI (mS h S1 BB V1 D1) 59 0 = zI h 59 0 := by rw [mS_59, dd 0 (by decide) (by decide) (by decide)]
      have e40 : F_X12_bells_b40 59 v k t 59 0 h = F_X12_bells_b67 59 k (seM f (seB f (8 ^ nG f))).1 (mS h S1 BB V1 D1) := by
        unfold F_X12_bells_b40
        rw [m_thr0 s, ob2_s, gd_d (k59 s), if_pos rfl, la, ob2_s, gd_d (k59 s), if_pos q, ef, ob2_s, gd_d (k59 (s' _ _ _)), gd_d (k59 (s' _ _ _)), mS_59, d23]
      rw [e40]
      constructor
      · intro c
        refine ⟨_, mm, z0, ?_⟩
        rw [c]
        unfold F_X12_bells_b67
        show (if (0 : Int32) ≤ -1 then _ else _) = _
        rw [if_neg (by decide)]
        rfl
      · intro T0 c
        obtain ⟨fr, J, o1, o2, o3, o4⟩ := m_b67 (s' S1 V1 D1) (e60' _ _ _) i (lv' _ _ _) (seB_lt c).1 hk
        refine ⟨fr, J, o1, MN_t mm o2, by rw [o3, z0], fun ex => ?_⟩
        rw [c]
        exact o4 ex
    · exact absurd (hy1.symm.trans q) (neg1_nI (by omega))
  · rcases tg with ⟨h1, -⟩ | ⟨y, hy1, hy2, hy3, rfl⟩
    · exact absurd h1 q
    · refine ⟨fun c => (by cases c), fun T0 c => ?_⟩
      cases c
      have mm : MN (zI h) (zI (mS h (sqT f (zI h 66) (8 ^ nG f)) BB (zI h 67) (zI h 59))) := mS_m (fun k _ => rfl)
      obtain ⟨fr, J, o1, o2, o3, o4⟩ := m_b67 (s' (sqT f (zI h 66) (8 ^ nG f)) (zI h 67) (zI h 59)) (e60' _ _ _) i (lv' _ _ _) (ordS_lt (s := nd y) (n := nG f) (fun g _ => nd_lt _ _)) hk
      refine ⟨fr, J, o1, MN_t mm o2, by rw [o3, mS_59], fun ex => ?_⟩
      have e40 : F_X12_bells_b40 59 v k t 59 0 h = F_X12_bells_b67 59 k t (mS h (sqT f (zI h 66) (8 ^ nG f)) BB (zI h 67) (zI h 59)) := by
        unfold F_X12_bells_b40
        rw [m_thr0 s, ob2_s, gd_d (k59 s), if_pos rfl, la, ob2_s, gd_d (k59 s), if_neg q]
      rw [e40, ht q]
      exact o4 ex
theorem m_b40t (s : Sh h) (v k t : Int32) : F_X12_bells_b40 59 v k t 59 1 h = some (0, setI h 59 0 1) := by
  unfold F_X12_bells_b40
  rw [m_thr1 s, ob2_s, gd_d (k59 s), if_neg (by decide)]
theorem su_m {c : Int32} : MN (zI h) (zI (setI h 59 0 c)) := fun a k q => by
  by_cases ha : a = 59
  · subst ha
    exact su_k (by unfold mNo at q; omega)
  · rw [su_n ha]
theorem m_bells (s : Sh h) (e60 : zI h 60 = f) (i : Inv f) (ok : allW f) (v k : Int32) : ((k < -1 ∨ bdB f v) → ∃ b J, MN (zI h) J ∧ J 59 0 = 1 ∧ F_X12_bells 59 v k h = some (b, wI h J)) ∧ (∀ T, ¬ k < -1 → tgB f v T → (T = none → ∃ J, MN (zI h) J ∧ J 59 0 = 0 ∧ F_X12_bells 59 v k h = some (-1, wI h J)) ∧ (∀ T0, T = some T0 → ∃ fr J, frO f T0 fr ∧ MN (zI h) J ∧ J 59 0 = 0 ∧ (exB f fr T0 → F_X12_bells 59 v k h = some (beV f fr T0 k, wI h J)))) := by
  have p8 := pow8 (iG5 i)
  -- the start: a heap, and what was told
  have st : ∃ S t, Sh (stH (t0 h) 66 S) ∧ F_X12_bells 59 v k h = F_X12_bells_b19 59 v k t (stH (t0 h) 66 S) ∧ (bdB f v → t = -1) ∧ (∀ T, v ≠ -1 → tgB f v T → t = fe T) := by
    by_cases q : v = -1
    · refine ⟨zI (t0 h) 66, -1, s, ?_, fun b => absurd q b.1, fun _ z => absurd q z⟩
      unfold F_X12_bells F_X12_bells_b0
      rw [gd_d (k59 s), if_pos q, stH_0, t0_d]
    · obtain ⟨o1, o2⟩ := m_orderOf (t0_s s) (t0_60.trans e60) i v
      cases c : isIn v (8 ^ nG f) with
      | false =>
        refine ⟨zI (t0 h) 66, -1, s, ?_, fun _ => rfl, fun T _ tg => ?_⟩
        · unfold F_X12_bells F_X12_bells_b0
          rw [gd_d (k59 s), if_neg q, t0_d, o1 c, ob2_s, stH_0]
        · rcases tg with ⟨h1, -⟩ | ⟨y, hy1, hy2, -⟩
          · exact absurd h1 q
          · rw [hy1, isIn_nI hy2 (by omega)] at c
            cases c
      | true =>
        obtain ⟨y, hy, rfl⟩ := isIn_of (by omega) c
        have e := o2 y rfl hy
        refine ⟨fillF (fun g => nI (nd y g)) (zI (t0 h) 66) (nG f), if vS f (nd y) = true then nI (ordS (nd y) (nG f)) else -1, s, ?_, fun b => ?_, fun T _ tg => ?_⟩
        · unfold F_X12_bells F_X12_bells_b0
          rw [gd_d (k59 s), if_neg q, t0_d, e, ob2_s]
        · rw [b.2 y rfl hy, if_neg (by decide)]
        · rcases tg with ⟨h1, -⟩ | ⟨z, hz1, hz2, hz3, rfl⟩
          · exact absurd h1 q
          · have : y = z := (nI_eq (by omega) (by omega)).mp hz1
            subst this
            rw [hz3, if_pos rfl]
            rfl
  obtain ⟨S, t, sS, e, tb, tt⟩ := st
  have e60S : zI (stH (t0 h) 66 S) 60 = f := by rw [stH_o (by decide), t0_60, e60]
  have mS : MN (zI h) (zI (stH (t0 h) 66 S)) := MN_t t0_m stH_m66
  have zS : zI (stH (t0 h) 66 S) 59 0 = 0 := by rw [stH_o (by decide)]; exact t0_z
  rw [e]
  constructor
  · intro bad
    refine ⟨0, zI (setI (stH (t0 h) 66 S) 59 0 1), MN_t mS su_m, su_e, ?_⟩
    have e35 : F_X12_bells_b35 59 v k t 59 (stH (t0 h) 66 S) = some (0, setI (stH (t0 h) 66 S) 59 0 1) := m_b40t sS v k t
    unfold F_X12_bells_b19 F_X12_bells_b30
    rw [e35]
    by_cases q : v = -1
    · rcases bad with b | b
      · rw [if_pos q, if_neg (Int32.not_le.mpr b)]
        rfl
      · exact absurd q b.1
    · rw [if_neg q]
      by_cases z : t < 0
      · rw [if_pos z]
        rfl
      · rcases bad with b | b
        · rw [if_neg z, if_neg (Int32.not_le.mpr b)]
          rfl
        · exact absurd (by rw [tb b]; decide) z
  · intro T hk tg
    have hk' : -1 ≤ k := fa_of_nlt hk
    obtain ⟨a1, a2⟩ := m_b40 sS e60S i ok hk' tg (fun q => tt T q tg)
    have e19 : F_X12_bells_b19 59 v k t (stH (t0 h) 66 S) = F_X12_bells_b40 59 v k t 59 0 (stH (t0 h) 66 S) := by
      unfold F_X12_bells_b19 F_X12_bells_b30
      rw [if_pos hk']
      by_cases q : v = -1
      · rw [if_pos q]
      · rw [if_neg q, if_neg]
        rw [tt T q tg]
        rcases tg with ⟨h1, -⟩ | ⟨y, hy1, hy2, hy3, rfl⟩
        · exact absurd h1 q
        · have := ordS_lt (s := nd y) (n := nG f) (fun g _ => nd_lt _ _)
          exact nI_pos (by omega)
    rw [e19]
    constructor
    · intro c
      obtain ⟨J, m1, m2, m3⟩ := a1 c
      exact ⟨J, MN_t mS m1, m2.trans zS, m3⟩
    · intro T0 c
      obtain ⟨fr, J, m0, m1, m2, m3⟩ := a2 T0 c
      exact ⟨fr, J, m0, MN_t mS m1, m2.trans zS, m3⟩
end BELLM2
