/-! THE RELATION OF BOTH SIDES, AND WHAT DOES NOT TOUCH IT -/
/-- a house at B, with all that belongs to it -/
def HS (h : Hp) (B : Nat) : Prop := kd h B = 2 ∧ zR h B 1 = some (B + 1) ∧ zR h B 2 = some (B + 2) ∧ zR h B 3 = some (B + 3) ∧ zR h B 4 = some (B + 4) ∧ zR h B 6 = some (B + 5) ∧ zR h B 7 = some (B + 6) ∧ zR h B 8 = some (B + 7) ∧ zR h B 9 = some (B + 8) ∧ zR h B 16 = some (B + 12) ∧ zR h B 18 = some (B + 16) ∧ zR h B 19 = some (B + 17) ∧ kd h (B + 1) = 13 ∧ zl h (B + 1) = 8 ∧ kd h (B + 2) = 13 ∧ zl h (B + 2) = 8 ∧ kd h (B + 3) = 13 ∧ zl h (B + 3) = 8 ∧ kd h (B + 4) = 13 ∧ zl h (B + 4) = 8 ∧ kd h (B + 16) = 13 ∧ zl h (B + 16) = 8 ∧ kd h (B + 17) = 13 ∧ zl h (B + 17) = 8 ∧ kd h (B + 5) = 13 ∧ zl h (B + 5) = 5 ∧ kd h (B + 6) = 13 ∧ zl h (B + 6) = 5 ∧ kd h (B + 7) = 15 ∧ zl h (B + 7) = 5 ∧ zR h (B + 7) 0 = some (B + 18) ∧ zR h (B + 7) 1 = some (B + 21) ∧ zR h (B + 7) 2 = some (B + 24) ∧ zR h (B + 7) 3 = some (B + 27) ∧ zR h (B + 7) 4 = some (B + 30) ∧ kd h (B + 8) = 7 ∧ zR h (B + 8) 1 = some (B + 9) ∧ kd h (B + 9) = 13 ∧ zl h (B + 9) = 6 ∧ zR h (B + 8) 2 = some (B + 10) ∧ kd h (B + 10) = 13 ∧ zl h (B + 10) = 6 ∧ zR h (B + 8) 3 = some (B + 11) ∧ kd h (B + 11) = 13 ∧ zl h (B + 11) = 6 ∧ kd h (B + 12) = 0 ∧ zR h (B + 12) 1 = some (B + 13) ∧ kd h (B + 13) = 13 ∧ zl h (B + 13) = 20 ∧ zR h (B + 12) 2 = some (B + 14) ∧ kd h (B + 14) = 13 ∧ zl h (B + 14) = 20 ∧ zR h (B + 12) 3 = some (B + 15) ∧ kd h (B + 15) = 13 ∧ zl h (B + 15) = 20 ∧ kd h (B + 18) = 9 ∧ zR h (B + 18) 1 = some (B + 19) ∧ zR h (B + 18) 2 = some (B + 20) ∧ kd h (B + 19) = 13 ∧ zl h (B + 19) = 400 ∧ kd h (B + 20) = 13 ∧ zl h (B + 20) = 32 ∧ kd h (B + 21) = 9 ∧ zR h (B + 21) 1 = some (B + 22) ∧ zR h (B + 21) 2 = some (B + 23) ∧ kd h (B + 22) = 13 ∧ zl h (B + 22) = 400 ∧ kd h (B + 23) = 13 ∧ zl h (B + 23) = 32 ∧ kd h (B + 24) = 9 ∧ zR h (B + 24) 1 = some (B + 25) ∧ zR h (B + 24) 2 = some (B + 26) ∧ kd h (B + 25) = 13 ∧ zl h (B + 25) = 400 ∧ kd h (B + 26) = 13 ∧ zl h (B + 26) = 32 ∧ kd h (B + 27) = 9 ∧ zR h (B + 27) 1 = some (B + 28) ∧ zR h (B + 27) 2 = some (B + 29) ∧ kd h (B + 28) = 13 ∧ zl h (B + 28) = 400 ∧ kd h (B + 29) = 13 ∧ zl h (B + 29) = 32 ∧ kd h (B + 30) = 9 ∧ zR h (B + 30) 1 = some (B + 31) ∧ zR h (B + 30) 2 = some (B + 32) ∧ kd h (B + 31) = 13 ∧ zl h (B + 31) = 400 ∧ kd h (B + 32) = 13 ∧ zl h (B + 32) = 32
theorem HS_3 {h : Hp} (s : Sh h) : HS h 3 := by
  unfold Sh at s
  simp only [HS, Nat.reduceAdd, s, and_self]
def mNo (a k : Nat) : Prop := (a = 59 ∧ k ≠ 4 ∧ k ≠ 6 ∧ k ≠ 11) ∨ (a = 60 ∧ 4232 ≤ k) ∨ a = 62 ∨ (64 ≤ a ∧ a ≤ 71)
def cNo (a k : Nat) : Prop := (a = 1 ∧ 2 ≤ k ∧ k ≤ 5) ∨ (36 ≤ a ∧ a ≤ 58) ∨ a = 23 ∨ a = 26 ∨ a = 29 ∨ a = 32 ∨ a = 35
/-- the text's two copies -/
def TP (I : Nat → Nat → Int32) : Prop := (∀ k, k < 400 → I 2 k = I 63 k) ∧ I 1 1 = I 59 6 ∧ I 1 6 = I 59 11 ∧ ∃ n, n ≤ 400 ∧ I 1 1 = nI n
/-- far and queue -/
def Pt (h : Hp) (A Q n : Nat) : Prop := zR h 50 0 = some A ∧ zR h 50 1 = some Q ∧ kd h A = 13 ∧ kd h Q = 13 ∧ zl h A = n ∧ zl h Q = n ∧ A ≠ Q ∧ ((A = 51 ∧ Q = 52 ∧ n = 0) ∨ (73 ≤ A ∧ 73 ≤ Q)) ∧ A < zN h ∧ Q < zN h ∧ (n = 0 ∨ n = 1 ∨ n = 8 ∨ n = 64 ∨ n = 512 ∨ n = 4096 ∨ n = 32768)
/-- the image -/
def IM (h : Hp) (A Q : Nat) : Prop := (zR h 0 9 = none ∧ zI h 59 4 = 0) ∨ (∃ K, zR h 0 9 = some K ∧ HS h K ∧ 73 ≤ K ∧ K + 33 ≤ zN h ∧ (A < K ∨ K + 33 ≤ A) ∧ (Q < K ∨ K + 33 ≤ Q) ∧ zI h 59 4 = 1 ∧ HR (zI h) K (zI h 61) ∧ Inv (zI h 61))
def GS (h : Hp) : Prop := Sh h ∧ Inv (zI h 60) ∧ HR (zI h) 3 (zI h 60) ∧ TP (zI h) ∧ ∃ A Q n, Pt h A Q n ∧ IM h A Q
theorem Inv_congr {f f2 : Nat → Int32} (e : ∀ k, k < 4232 → f2 k = f k) (i : Inv f) : Inv f2 := by
  have eR : nR f2 = nR f := by unfold nR; rw [e 0 (by omega)]
  have eG : nG f2 = nG f := by unfold nG; rw [e 1 (by omega)]
  have eT : nT f2 = nT f := by unfold nT; rw [e 2 (by omega)]
  have eX : nX f2 = nX f := by unfold nX; rw [e 3 (by omega)]
  have eB : nB f2 = nB f := by unfold nB; rw [e 4 (by omega)]
  have eD : nD f2 = nD f := by unfold nD; rw [e 5 (by omega)]
  have eS : sR f2 = sR f := by unfold sR; rw [e 6 (by omega)]
  have r8 := iR8 i
  have g5 := iG5 i
  have t6 := iT6 i
  have b20 := iB20 i
  unfold Inv
  rw [eR, eG, eT, eX, eB, eD, eS, e 0 (by omega), e 1 (by omega), e 2 (by omega), e 3 (by omega), e 4 (by omega), e 5 (by omega), e 6 (by omega), e 7 (by omega), e 8 (by omega), e 9 (by omega)]
  refine ⟨i.1, i.2.1, i.2.2.1, i.2.2.2.1, i.2.2.2.2.1, i.2.2.2.2.2.1, iSr i, i7 i, i8 i, i9 i, fun r hr => ?_, fun g hg => ?_, fun t ht => ?_, fun b hb => ?_⟩
  · rw [e _ (by omega), e _ (by omega), e _ (by omega), e _ (by omega)]
    exact irm i r hr
  · have es : sit f2 g = sit f g := by unfold sit; rw [e _ (by omega)]
    rw [es, e _ (by omega), e _ (by omega)]
    exact igs i g hg
  · have es : tin f2 t = tin f t := by unfold tin; rw [e _ (by omega)]
    rw [es, e _ (by omega), e _ (by omega), e _ (by omega)]
    exact itr i t ht
  · rw [e _ (by omega), e _ (by omega), e _ (by omega)]
    exact ibk i b hb
theorem tyR_congr {m m2 : Nat → Int32} : ∀ {n i : Nat} {st : List Bool}, (∀ k, k < 17 + 2 * (i + n) → m2 k = m k) → tyR m2 i n st = tyR m i n st
  | 0, _, _, _ => rfl
  | n + 1, i, st, e => by
    unfold tyR
    rw [e (17 + 2 * i) (by omega), e (18 + 2 * i) (by omega)]
    cases tyS (m (17 + 2 * i)) (m (18 + 2 * i)) st with
    | none => rfl
    | some q => exact tyR_congr (n := n) (i := i + 1) (st := q) (fun k hk => e k (by omega))
theorem WOk_congr {m m2 : Nat → Int32} (e : ∀ k, k < 817 → m2 k = m k) (q : WOk m) : WOk m2 := by
  obtain ⟨q1, q2, q3⟩ := q
  have e0 : wN m2 0 = wN m 0 := by unfold wN; rw [e 0 (by omega)]
  refine ⟨by rw [e0, e 0 (by omega)]; exact q1, by rw [e0]; exact q2, fun w hw => ?_⟩
  rw [e0] at hw
  have ea : wN m2 (1 + 2 * w) = wN m (1 + 2 * w) := by unfold wN; rw [e _ (by omega)]
  have eb : wN m2 (2 + 2 * w) = wN m (2 + 2 * w) := by unfold wN; rw [e _ (by omega)]
  have ec : wN m2 (2 * w) = wN m (2 * w) := by unfold wN; rw [e _ (by omega)]
  obtain ⟨a1, a2, a3, a4, a5, a6⟩ := q3 w hw
  rw [ea, eb, ec, e _ (by omega), e _ (by omega)]
  refine ⟨a1, a2, a3, a4, a5, ?_⟩
  rw [tyR_congr (m := m) (fun k hk => e k (by omega))]
  exact a6
theorem WR_congr {a a2 c c2 m m2 : Nat → Int32} (ea : a2 0 = a 0) (eb : a2 3 = a 3) (ec : ∀ k, k < 400 → c2 k = c k) (e : ∀ k, k < 817 → m2 k = m k) (q : WR a c m) : WR a2 c2 m2 := by
  obtain ⟨q1, q2, q3, q4⟩ := q
  have e0 : wN m2 0 = wN m 0 := by unfold wN; rw [e 0 (by omega)]
  have h8 := q1.2.1
  refine ⟨WOk_congr e q1, by rw [ea, q2, e 0 (by omega)], ?_, fun w hw => ?_⟩
  · rw [eb, q3]
    unfold wEnd
    rw [e0]
    have : wN m2 (2 * wN m 0) = wN m (2 * wN m 0) := by unfold wN at h8 ⊢; rw [e _ (by omega)]
    rw [this]
  · rw [e0] at hw
    have ex : wN m2 (1 + 2 * w) = wN m (1 + 2 * w) := by unfold wN; rw [e _ (by omega)]
    have ey : wN m2 (2 + 2 * w) = wN m (2 + 2 * w) := by unfold wN; rw [e _ (by omega)]
    obtain ⟨-, -, -, a4, -, -⟩ := q1.2.2 w hw
    obtain ⟨b1, b2⟩ := q4 w hw
    rw [ex, ey]
    refine ⟨by rw [ec _ (by omega)]; exact b1, fun j hj hk => ?_⟩
    rw [ec _ (by omega), e _ (by omega), e _ (by omega)]
    exact b2 j hj hk
theorem HR_congr {I J : Nat → Nat → Int32} {B : Nat} {f f2 : Nat → Int32} (ea : ∀ a, a < 18 → J (B + a) = I (B + a)) (eb : ∀ g, g < 5 → J (B + 18 + 3 * g) = I (B + 18 + 3 * g) ∧ J (B + 19 + 3 * g) = I (B + 19 + 3 * g)) (e : ∀ k, k < 4232 → f2 k = f k) (i : Inv f) (c : HR I B f) : HR J B f2 := by
  have e0 : J B = I B := ea 0 (by omega)
  have eB : nB f2 = nB f := by unfold nB; rw [e 4 (by omega)]
  have eG : nG f2 = nG f := by unfold nG; rw [e 1 (by omega)]
  have g5 := iG5 i
  have b20 := iB20 i
  obtain ⟨c1, c2, c3, c4, c5, c6, c7⟩ := c
  unfold HR
  rw [e0, ea 8 (by omega), ea 12 (by omega), ea 1 (by omega), ea 2 (by omega), ea 3 (by omega), ea 4 (by omega), ea 5 (by omega), ea 6 (by omega), ea 9 (by omega), ea 10 (by omega), ea 11 (by omega), ea 13 (by omega), ea 14 (by omega), ea 15 (by omega), ea 16 (by omega), ea 17 (by omega), eB, eG, e 0 (by omega), e 1 (by omega), e 2 (by omega), e 3 (by omega), e 4 (by omega), e 5 (by omega), e 6 (by omega), e 7 (by omega), e 8 (by omega), e 9 (by omega), e 10 (by omega)]
  refine ⟨c1, fun r hr => ?_, fun g hg => ?_, fun t ht => ?_, fun k hk => ?_, fun b hb => ?_, fun g hg => ?_⟩
  · rw [e _ (by omega), e _ (by omega), e _ (by omega), e _ (by omega)]
    exact c2 r hr
  · rw [e _ (by omega), e _ (by omega)]
    exact c3 g hg
  · rw [e _ (by omega), e _ (by omega), e _ (by omega)]
    exact c4 t ht
  · rw [e _ (by omega), e _ (by omega)]
    exact c5 k hk
  · rw [e _ (by omega), e _ (by omega), e _ (by omega)]
    exact c6 b hb
  · have := eb g (by omega)
    rw [this.1, this.2]
    exact WR_congr rfl rfl (fun _ _ => rfl) (fun k hk => e _ (by omega)) (c7 g hg)
theorem HS_w {h : Hp} {B : Nat} (s : HS h B) (I : Nat → Nat → Int32) : HS (wI h I) B := s
/-- nothing but what both sides may overwrite has changed -/
def QN (h : Hp) (J : Nat → Nat → Int32) : Prop := ∀ a k, ¬ mNo a k → ¬ cNo a k → zR h 50 0 ≠ some a → zR h 50 1 ≠ some a → J a k = zI h a k
theorem GS_w {h : Hp} {J : Nat → Nat → Int32} (g : GS h) (e : QN h J) : GS (wI h J) := by
  obtain ⟨s, i, c, t, A, Q, n, p, m⟩ := g
  have p8 := p.2.2.2.2.2.2.2.1
  have low : ∀ a k, a < 73 → ¬ mNo a k → ¬ cNo a k → J a k = zI h a k := fun a k ha h1 h2 => e a k h1 h2 (by
    rw [p.1]
    intro q
    cases q
    rcases p8 with ⟨q, -, -⟩ | ⟨q, -⟩
    · exact h2 (Or.inr (Or.inl ⟨by omega, by omega⟩))
    · omega) (by
    rw [p.2.1]
    intro q
    cases q
    rcases p8 with ⟨-, q, -⟩ | ⟨-, q⟩
    · exact h2 (Or.inr (Or.inl ⟨by omega, by omega⟩))
    · omega)
  have lo2 : ∀ a, a < 73 → (∀ k, ¬ mNo a k ∧ ¬ cNo a k) → J a = zI h a := fun a ha hq => funext fun k => low a k ha (hq k).1 (hq k).2
  have e60 : ∀ k, k < 4232 → J 60 k = zI h 60 k := fun k hk => low 60 k (by omega) (by unfold mNo; omega) (by unfold cNo; omega)
  refine ⟨Sh_w s J, Inv_congr e60 i, HR_congr (f := zI h 60) (fun a ha => ?_) (fun g hg => ⟨?_, ?_⟩) e60 i c, ?_, A, Q, n, p, ?_⟩
  · exact lo2 _ (by omega) (fun k => ⟨by unfold mNo; omega, by unfold cNo; omega⟩)
  · exact lo2 _ (by omega) (fun k => ⟨by unfold mNo; omega, by unfold cNo; omega⟩)
  · exact lo2 _ (by omega) (fun k => ⟨by unfold mNo; omega, by unfold cNo; omega⟩)
  · obtain ⟨t1, t2, t3, t4⟩ := t
    have a1 : J 1 1 = zI h 1 1 := low 1 1 (by omega) (by unfold mNo; omega) (by unfold cNo; omega)
    have a2 : J 1 6 = zI h 1 6 := low 1 6 (by omega) (by unfold mNo; omega) (by unfold cNo; omega)
    have a3 : J 59 6 = zI h 59 6 := low 59 6 (by omega) (by unfold mNo; omega) (by unfold cNo; omega)
    have a4 : J 59 11 = zI h 59 11 := low 59 11 (by omega) (by unfold mNo; omega) (by unfold cNo; omega)
    refine ⟨fun k hk => ?_, ?_, ?_, ?_⟩
    · show J 2 k = J 63 k
      rw [low 2 k (by omega) (by unfold mNo; omega) (by unfold cNo; omega), low 63 k (by omega) (by unfold mNo; omega) (by unfold cNo; omega)]
      exact t1 k hk
    · show J 1 1 = J 59 6
      rw [a1, a3]
      exact t2
    · show J 1 6 = J 59 11
      rw [a2, a4]
      exact t3
    · show ∃ n, n ≤ 400 ∧ J 1 1 = nI n
      rw [a1]
      exact t4
  · have b4 : J 59 4 = zI h 59 4 := low 59 4 (by omega) (by unfold mNo; omega) (by unfold cNo; omega)
    rcases m with ⟨m1, m2⟩ | ⟨K, m1, m2, m3, m4, m5, m6, m7, m8, m9⟩
    · exact Or.inl ⟨m1, b4.trans m2⟩
    · have hi : ∀ a, K ≤ a → a < K + 33 → J a = zI h a := fun a h1 h2 => funext fun k => e a k (by unfold mNo; omega) (by unfold cNo; omega) (by
        rw [p.1]
        intro q
        cases q
        omega) (by
        rw [p.2.1]
        intro q
        cases q
        omega)
      have e61 : ∀ k, k < 4232 → J 61 k = zI h 61 k := fun k hk => low 61 k (by omega) (by unfold mNo; omega) (by unfold cNo; omega)
      exact Or.inr ⟨K, m1, m2, m3, m4, m5, m6, b4.trans m7, HR_congr (f := zI h 61) (fun a ha => hi _ (by omega) (by omega)) (fun g hg => ⟨hi _ (by omega) (by omega), hi _ (by omega) (by omega)⟩) e61 m9 m8, Inv_congr e61 m9⟩
theorem GS_L {h : Hp} {a k : Nat} {v : Int64} (g : GS h) : GS (setL h a k v) := g
def farL (h : Hp) : Nat := match zR h 50 0 with
  | some a => zl h a
  | none => 0
def keptN (h : Hp) : Nat := match zR h 0 9 with
  | some _ => 0
  | none => 1
def potC (h : Hp) : Nat := 2 * (32768 - farL h) + 33 * keptN h
def potS (h : Hp) : Nat := 4 * (32768 - farL h) + 5000 * keptN h
/-- a call that both sides make, the class's may throw -/
def JB (h : Hp) (FL : Hp → Option (Int32 × Hp × Nat × Nat)) (FM : Hp → Option (Int32 × Hp)) : Prop := ∃ k h1 c s b h2, FL h = some (k, h1, c, s) ∧ FM h1 = some (b, h2) ∧ kd h1 59 = 11 ∧ zI h2 59 0 = k ∧ (k = 0 → zL h2 72 0 = b.toInt64) ∧ GS h2 ∧ c + potC h2 ≤ potC h + 1 ∧ s + potS h2 ≤ potS h + 6
def MN (I J : Nat → Nat → Int32) : Prop := ∀ a k, ¬ mNo a k → J a k = I a k
theorem QN_of {h : Hp} {J : Nat → Nat → Int32} (m : MN (zI h) J) : QN h J := fun a k h1 _ _ _ => m a k h1
/-- the class only reads, and answers r -/
theorem JB_r {h : Hp} (g : GS h) {FL : Hp → Option (Int32 × Hp × Nat × Nat)} {FM : Hp → Option (Int32 × Hp)} {r : Int32} (h1 : FL h = some (0, setL h 72 0 r.toInt64, 0, 0)) (h2 : ∃ J, FM (setL h 72 0 r.toInt64) = some (r, wI (setL h 72 0 r.toInt64) J) ∧ MN (zI h) J ∧ J 59 0 = 0) : JB h FL FM := by
  obtain ⟨J, e1, e2, e3⟩ := h2
  refine ⟨0, _, 0, 0, r, _, h1, e1, k59 g.1, e3, fun _ => ?_, GS_w (GS_L g) (QN_of e2), ?_, ?_⟩
  · show zL (setL h 72 0 r.toInt64) 72 0 = _
    simp [setL, zL, up2, va_up]
  · show 0 + potC h ≤ _
    omega
  · show 0 + potS h ≤ _
    omega
/-- the class throws, and nothing else -/
theorem JB_t {h : Hp} (g : GS h) {FL : Hp → Option (Int32 × Hp × Nat × Nat)} {FM : Hp → Option (Int32 × Hp)} {k : Int32} (hk : k ≠ 0) (h1 : FL h = some (k, h, 1, 6)) (h2 : ∃ b J, FM h = some (b, wI h J) ∧ MN (zI h) J ∧ J 59 0 = k) : JB h FL FM := by
  obtain ⟨b, J, e1, e2, e3⟩ := h2
  refine ⟨k, _, 1, 6, b, _, h1, e1, k59 g.1, e3, fun q => absurd q hk, GS_w g (QN_of e2), ?_, ?_⟩
  · show 1 + potC h ≤ _
    omega
  · show 6 + potS h ≤ _
    omega
