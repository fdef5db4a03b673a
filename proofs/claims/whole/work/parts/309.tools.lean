/-! HOW THE RELATION IS KEPT WHEN BOTH SIDES WRITE -/
def Mp (a k w : Nat) : Prop :=
  (a = 0 ∧ ((k = 0 ∧ w = 0) ∨ (k = 5 ∧ w = 1) ∨ (k = 14 ∧ w = 3) ∨ (k = 17 ∧ w = 5) ∨ (k = 11 ∧ w = 6) ∨ (k = 10 ∧ w = 7) ∨ (k = 12 ∧ w = 8) ∨ (k = 13 ∧ w = 9) ∨ (k = 15 ∧ w = 10))) ∨ (a = 8 ∧ k = 0 ∧ w = 2) ∨ (a = 12 ∧ k = 0 ∧ w = 4) ∨ (1 ≤ a ∧ a ≤ 4 ∧ k < 8 ∧ w = 10 + a + 4 * k) ∨ (5 ≤ a ∧ a ≤ 6 ∧ k < 5 ∧ w = 38 + a + 2 * k) ∨ (9 ≤ a ∧ a ≤ 11 ∧ k < 6 ∧ w = 44 + a + 3 * k) ∨ (16 ≤ a ∧ a ≤ 17 ∧ k < 8 ∧ w = 115 + a + 2 * k)
section TOOLS
variable {I J : Nat → Nat → Int32} {B : Nat} {f f2 : Nat → Int32} {h : Hp}
theorem HR_mp (c : HR I B f) : ∀ a k w, Mp a k w → I (B + a) k = f w := by
  intro a k w m
  obtain ⟨⟨c0, c1, c2, c3, c4, c5, c6, c7, c8, c9, c10⟩, d1, d2, d3, d4, -⟩ := c
  rcases m with ⟨rfl, m⟩ | ⟨rfl, rfl, rfl⟩ | ⟨rfl, rfl, rfl⟩ | ⟨m1, m2, m3, rfl⟩ | ⟨m1, m2, m3, rfl⟩ | ⟨m1, m2, m3, rfl⟩ | ⟨m1, m2, m3, rfl⟩
  · rcases m with ⟨rfl, rfl⟩ | ⟨rfl, rfl⟩ | ⟨rfl, rfl⟩ | ⟨rfl, rfl⟩ | ⟨rfl, rfl⟩ | ⟨rfl, rfl⟩ | ⟨rfl, rfl⟩ | ⟨rfl, rfl⟩ | ⟨rfl, rfl⟩ <;> assumption
  · exact c2
  · exact c4
  · have : a = 1 ∨ a = 2 ∨ a = 3 ∨ a = 4 := by omega
    obtain ⟨e1, e2, e3, e4⟩ := d1 k m3
    rcases this with rfl | rfl | rfl | rfl <;> assumption
  · have : a = 5 ∨ a = 6 := by omega
    obtain ⟨e1, e2⟩ := d2 k m3
    rcases this with rfl | rfl <;> assumption
  · have : a = 9 ∨ a = 10 ∨ a = 11 := by omega
    obtain ⟨e1, e2, e3⟩ := d3 k m3
    rcases this with rfl | rfl | rfl <;> assumption
  · have : a = 16 ∨ a = 17 := by omega
    obtain ⟨e1, e2⟩ := d4 k m3
    rcases this with rfl | rfl <;> assumption
theorem mp_R {a k : Nat} (h1 : 1 ≤ a) (h2 : a ≤ 4) (hk : k < 8) {w : Nat} (hw : w = 10 + a + 4 * k) : Mp a k w := Or.inr (Or.inr (Or.inr (Or.inl ⟨h1, h2, hk, hw⟩)))
theorem mp_G {a k : Nat} (h1 : 5 ≤ a) (h2 : a ≤ 6) (hk : k < 5) {w : Nat} (hw : w = 38 + a + 2 * k) : Mp a k w := Or.inr (Or.inr (Or.inr (Or.inr (Or.inl ⟨h1, h2, hk, hw⟩))))
theorem mp_T {a k : Nat} (h1 : 9 ≤ a) (h2 : a ≤ 11) (hk : k < 6) {w : Nat} (hw : w = 44 + a + 3 * k) : Mp a k w := Or.inr (Or.inr (Or.inr (Or.inr (Or.inr (Or.inl ⟨h1, h2, hk, hw⟩)))))
theorem mp_X {a k : Nat} (h1 : 16 ≤ a) (h2 : a ≤ 17) (hk : k < 8) {w : Nat} (hw : w = 115 + a + 2 * k) : Mp a k w := Or.inr (Or.inr (Or.inr (Or.inr (Or.inr (Or.inr ⟨h1, h2, hk, hw⟩)))))
theorem mp_bd {a k w : Nat} (m : Mp a k w) : a ≤ 17 ∧ w < 147 ∧ (71 ≤ w → 131 ≤ w) ∧ (a < 13 ∨ 15 < a) ∧ a ≠ 7 := by
  rcases m with ⟨rfl, m⟩ | ⟨rfl, rfl, rfl⟩ | ⟨rfl, rfl, rfl⟩ | ⟨m1, m2, m3, rfl⟩ | ⟨m1, m2, m3, rfl⟩ | ⟨m1, m2, m3, rfl⟩ | ⟨m1, m2, m3, rfl⟩ <;> omega
theorem mp_fun {a k w a2 k2 w2 : Nat} (m : Mp a k w) (n : Mp a2 k2 w2) : (a2 = a ∧ k2 = k) ↔ w2 = w := by
  rcases m with ⟨rfl, m⟩ | ⟨rfl, rfl, rfl⟩ | ⟨rfl, rfl, rfl⟩ | ⟨m1, m2, m3, rfl⟩ | ⟨m1, m2, m3, rfl⟩ | ⟨m1, m2, m3, rfl⟩ | ⟨m1, m2, m3, rfl⟩ <;>
  rcases n with ⟨rfl, n⟩ | ⟨rfl, rfl, rfl⟩ | ⟨rfl, rfl, rfl⟩ | ⟨n1, n2, n3, rfl⟩ | ⟨n1, n2, n3, rfl⟩ | ⟨n1, n2, n3, rfl⟩ | ⟨n1, n2, n3, rfl⟩ <;> constructor <;> intro q <;> omega
set_option maxHeartbeats 4000000 in
theorem HR_of (m : ∀ a k w, Mp a k w → I (B + a) k = f w) (hb : ∀ b, b < nB f → I (B + 13) b = f (71 + 3 * b) ∧ I (B + 14) b = f (72 + 3 * b) ∧ I (B + 15) b = f (73 + 3 * b)) (hw : ∀ g, g < nG f → WR (I (B + 18 + 3 * g)) (I (B + 19 + 3 * g)) (fun k => f (147 + 817 * g + k))) : HR I B f := by
  have c0 := m 0 0 0 (by unfold Mp; decide)
  have c1 := m 0 5 1 (by unfold Mp; decide)
  have c2 := m 8 0 2 (by unfold Mp; decide)
  have c3 := m 0 14 3 (by unfold Mp; decide)
  have c4 := m 12 0 4 (by unfold Mp; decide)
  have c5 := m 0 17 5 (by unfold Mp; decide)
  have c6 := m 0 11 6 (by unfold Mp; decide)
  have c7 := m 0 10 7 (by unfold Mp; decide)
  have c8 := m 0 12 8 (by unfold Mp; decide)
  have c9 := m 0 13 9 (by unfold Mp; decide)
  have c10 := m 0 15 10 (by unfold Mp; decide)
  have d1 : ∀ r, r < 8 → I (B + 1) r = f (11 + 4 * r) ∧ I (B + 2) r = f (12 + 4 * r) ∧ I (B + 3) r = f (13 + 4 * r) ∧ I (B + 4) r = f (14 + 4 * r) := fun r hr => ⟨m 1 r _ (mp_R (by omega) (by omega) hr (by omega)), m 2 r _ (mp_R (by omega) (by omega) hr (by omega)), m 3 r _ (mp_R (by omega) (by omega) hr (by omega)), m 4 r _ (mp_R (by omega) (by omega) hr (by omega))⟩
  have d2 : ∀ g, g < 5 → I (B + 5) g = f (43 + 2 * g) ∧ I (B + 6) g = f (44 + 2 * g) := fun r hr => ⟨m 5 r _ (mp_G (by omega) (by omega) hr (by omega)), m 6 r _ (mp_G (by omega) (by omega) hr (by omega))⟩
  have d3 : ∀ t, t < 6 → I (B + 9) t = f (53 + 3 * t) ∧ I (B + 10) t = f (54 + 3 * t) ∧ I (B + 11) t = f (55 + 3 * t) := fun r hr => ⟨m 9 r _ (mp_T (by omega) (by omega) hr (by omega)), m 10 r _ (mp_T (by omega) (by omega) hr (by omega)), m 11 r _ (mp_T (by omega) (by omega) hr (by omega))⟩
  have d4 : ∀ k, k < 8 → I (B + 16) k = f (131 + 2 * k) ∧ I (B + 17) k = f (132 + 2 * k) := fun r hr => ⟨m 16 r _ (mp_X (by omega) (by omega) hr (by omega)), m 17 r _ (mp_X (by omega) (by omega) hr (by omega))⟩
  exact ⟨⟨c0, c1, c2, c3, c4, c5, c6, c7, c8, c9, c10⟩, d1, d2, d3, d4, hb, hw⟩
theorem HR_bk (c : HR I B f) : ∀ b, b < nB f → I (B + 13) b = f (71 + 3 * b) ∧ I (B + 14) b = f (72 + 3 * b) ∧ I (B + 15) b = f (73 + 3 * b) := c.2.2.2.2.2.1
theorem HR_ws (c : HR I B f) : ∀ g, g < nG f → WR (I (B + 18 + 3 * g)) (I (B + 19 + 3 * g)) (fun k => f (147 + 817 * g + k)) := c.2.2.2.2.2.2
/-- other numbers, but the same book and the same wishes -/
theorem HR_ch (c : HR I B f) (i : Inv f) (m : ∀ a k w, Mp a k w → J (B + a) k = f2 w) (e1 : f2 1 = f 1) (e4 : f2 4 = f 4) (e : ∀ k, 71 ≤ k → k < 131 → f2 k = f k) (e2 : ∀ k, 147 ≤ k → k < 4232 → f2 k = f k) (ea : ∀ a, 13 ≤ a → a ≤ 15 → J (B + a) = I (B + a)) (eb : ∀ g, g < 5 → J (B + 18 + 3 * g) = I (B + 18 + 3 * g) ∧ J (B + 19 + 3 * g) = I (B + 19 + 3 * g)) : HR J B f2 := by
  have eB : nB f2 = nB f := by unfold nB; rw [e4]
  have eG : nG f2 = nG f := by unfold nG; rw [e1]
  have g5 := iG5 i
  have b20 := iB20 i
  refine HR_of m (fun b hb => ?_) (fun g hg => ?_)
  · rw [eB] at hb
    rw [ea 13 (by omega) (by omega), ea 14 (by omega) (by omega), ea 15 (by omega) (by omega), e _ (by omega) (by omega), e _ (by omega) (by omega), e _ (by omega) (by omega)]
    exact HR_bk c b hb
  · rw [eG] at hg
    have := eb g (by omega)
    rw [this.1, this.2]
    exact WR_congr rfl rfl (fun _ _ => rfl) (fun k hk => e2 _ (by omega) (by omega)) (HR_ws c g hg)
theorem Inv_mk2 (i : Inv f) (e : ∀ k, k < 10 → k ≠ 5 → f2 k = f k) (e5 : f2 5 = nI (nD f2) ∧ nD f2 ≤ 8) (hr : ∀ r, r < nR f → bw (f2 (11 + 4 * r)) (-9) 9 ∧ bw (f2 (12 + 4 * r)) (-9) 9 ∧ bw (f2 (13 + 4 * r)) 1 4 ∧ bw (f2 (14 + 4 * r)) 0 999) (hg : ∀ g, g < nG f → bw (f2 (43 + 2 * g)) 1 200 ∧ ∃ r, r < nR f ∧ f2 (44 + 2 * g) = nI r) (ht : ∀ t, t < nT f → bw (f2 (53 + 3 * t)) 0 300 ∧ bw (f2 (54 + 3 * t)) 0 300 ∧ (f2 (53 + 3 * t)).toInt ≤ (f2 (54 + 3 * t)).toInt ∧ ∃ r, r < nR f ∧ f2 (55 + 3 * t) = nI r) (hb : ∀ b, b < nB f → bw (f2 (71 + 3 * b)) 0 999 ∧ (∃ g, g < nG f ∧ f2 (72 + 3 * b) = nI g) ∧ (∃ r, r < nR f ∧ f2 (73 + 3 * b) = nI r)) : Inv f2 := by
  have eR : nR f2 = nR f := by unfold nR; rw [e 0 (by omega) (by omega)]
  have eG : nG f2 = nG f := by unfold nG; rw [e 1 (by omega) (by omega)]
  have eT : nT f2 = nT f := by unfold nT; rw [e 2 (by omega) (by omega)]
  have eX : nX f2 = nX f := by unfold nX; rw [e 3 (by omega) (by omega)]
  have eB : nB f2 = nB f := by unfold nB; rw [e 4 (by omega) (by omega)]
  have eS : sR f2 = sR f := by unfold sR; rw [e 6 (by omega) (by omega)]
  have r8 := iR8 i
  unfold Inv
  rw [eR, eG, eT, eX, eB, eS, e 0 (by omega) (by omega), e 1 (by omega) (by omega), e 2 (by omega) (by omega), e 3 (by omega) (by omega), e 4 (by omega) (by omega), e 6 (by omega) (by omega), e 7 (by omega) (by omega), e 8 (by omega) (by omega), e 9 (by omega) (by omega)]
  refine ⟨i.1, i.2.1, i.2.2.1, i.2.2.2.1, i.2.2.2.2.1, e5, iSr i, i7 i, i8 i, i9 i, hr, fun g hq => ?_, fun t hq => ?_, hb⟩
  · obtain ⟨a, r, hr2, er⟩ := hg g hq
    have es : sit f2 g = r := by unfold sit; rw [er, nI_clamp (by omega)]
    rw [es]
    exact ⟨a, er, hr2⟩
  · obtain ⟨a, b, cc, r, hr2, er⟩ := ht t hq
    have es : tin f2 t = r := by unfold tin; rw [er, nI_clamp (by omega)]
    rw [es]
    exact ⟨a, b, cc, er, hr2⟩
theorem Inv_mk (i : Inv f) (e : ∀ k, k < 10 → f2 k = f k) (hr : ∀ r, r < nR f → bw (f2 (11 + 4 * r)) (-9) 9 ∧ bw (f2 (12 + 4 * r)) (-9) 9 ∧ bw (f2 (13 + 4 * r)) 1 4 ∧ bw (f2 (14 + 4 * r)) 0 999) (hg : ∀ g, g < nG f → bw (f2 (43 + 2 * g)) 1 200 ∧ ∃ r, r < nR f ∧ f2 (44 + 2 * g) = nI r) (ht : ∀ t, t < nT f → bw (f2 (53 + 3 * t)) 0 300 ∧ bw (f2 (54 + 3 * t)) 0 300 ∧ (f2 (53 + 3 * t)).toInt ≤ (f2 (54 + 3 * t)).toInt ∧ ∃ r, r < nR f ∧ f2 (55 + 3 * t) = nI r) (hb : ∀ b, b < nB f → bw (f2 (71 + 3 * b)) 0 999 ∧ (∃ g, g < nG f ∧ f2 (72 + 3 * b) = nI g) ∧ (∃ r, r < nR f ∧ f2 (73 + 3 * b) = nI r)) : Inv f2 := Inv_mk2 i (fun k hk _ => e k hk) (by
  have eD : nD f2 = nD f := by unfold nD; rw [e 5 (by omega)]
  rw [eD, e 5 (by omega)]; exact i.2.2.2.2.2.1) hr hg ht hb
theorem ig2 (i : Inv f) : ∀ g, g < nG f → bw (f (43 + 2 * g)) 1 200 ∧ ∃ r, r < nR f ∧ f (44 + 2 * g) = nI r := fun g hg => ⟨(igs i g hg).1, sit f g, (igs i g hg).2.2, (igs i g hg).2.1⟩
theorem it2 (i : Inv f) : ∀ t, t < nT f → bw (f (53 + 3 * t)) 0 300 ∧ bw (f (54 + 3 * t)) 0 300 ∧ (f (53 + 3 * t)).toInt ≤ (f (54 + 3 * t)).toInt ∧ ∃ r, r < nR f ∧ f (55 + 3 * t) = nI r := fun t ht => by
  obtain ⟨a, b, c, d, e⟩ := itr i t ht
  exact ⟨a, b, c, tin f t, e, d⟩
/-- the numbers that stand in no promise of Inv -/
theorem Inv_10 (i : Inv f) (e : ∀ k, k < 131 → k ≠ 10 → f2 k = f k) : Inv f2 := by
  have r8 := iR8 i
  have g5 := iG5 i
  have t6 := iT6 i
  have b20 := iB20 i
  refine Inv_mk i (fun k hk => e k (by omega) (by omega)) (fun r hr => ?_) (fun g hg => ?_) (fun t ht => ?_) (fun b hb => ?_)
  · rw [e _ (by omega) (by omega), e _ (by omega) (by omega), e _ (by omega) (by omega), e _ (by omega) (by omega)]
    exact irm i r hr
  · rw [e _ (by omega) (by omega), e _ (by omega) (by omega)]
    exact ig2 i g hg
  · rw [e _ (by omega) (by omega), e _ (by omega) (by omega), e _ (by omega) (by omega)]
    exact it2 i t ht
  · rw [e _ (by omega) (by omega), e _ (by omega) (by omega), e _ (by omega) (by omega)]
    exact ibk i b hb
theorem GS_c {J : Nat → Nat → Int32} (g : GS h) (i : Inv (J 60)) (c : HR J 3 (J 60)) (t : TP J) (e : ∀ a k, (a = 61 ∨ 73 ≤ a ∨ (a = 59 ∧ k = 4)) → zR h 50 0 ≠ some a → zR h 50 1 ≠ some a → J a k = zI h a k) : GS (wI h J) := by
  obtain ⟨s, -, -, -, A, Q, n, p, m⟩ := g
  have p8 := p.2.2.2.2.2.2.2.1
  have nA : ∀ a, 53 ≤ a → a < 73 → zR h 50 0 ≠ some a := fun a h1 h2 q => by
    rw [p.1] at q
    cases q
    omega
  have nQ : ∀ a, 53 ≤ a → a < 73 → zR h 50 1 ≠ some a := fun a h1 h2 q => by
    rw [p.2.1] at q
    cases q
    omega
  refine ⟨Sh_w s J, i, c, t, A, Q, n, p, ?_⟩
  have b4 : J 59 4 = zI h 59 4 := e 59 4 (Or.inr (Or.inr ⟨rfl, rfl⟩)) (nA _ (by omega) (by omega)) (nQ _ (by omega) (by omega))
  rcases m with ⟨m1, m2⟩ | ⟨K, m1, m2, m3, m4, m5, m6, m7, m8, m9⟩
  · exact Or.inl ⟨m1, b4.trans m2⟩
  · have hi : ∀ a, K ≤ a → a < K + 33 → J a = zI h a := fun a h1 h2 => funext fun k => e a k (Or.inr (Or.inl (by omega))) (by
      rw [p.1]
      intro q
      cases q
      omega) (by
      rw [p.2.1]
      intro q
      cases q
      omega)
    have e61 : ∀ k, k < 4232 → J 61 k = zI h 61 k := fun k hk => e 61 k (Or.inl rfl) (nA _ (by omega) (by omega)) (nQ _ (by omega) (by omega))
    exact Or.inr ⟨K, m1, m2, m3, m4, m5, m6, b4.trans m7, HR_congr (f := zI h 61) (fun a ha => hi _ (by omega) (by omega)) (fun g hg => ⟨hi _ (by omega) (by omega), hi _ (by omega) (by omega)⟩) e61 m9 m8, Inv_congr e61 m9⟩
/-- both sides' calls that can't throw -/
def JA (h : Hp) (FX FM : Hp → Option (Int32 × Hp)) : Prop := ∃ r h1 h2, FX h = some (r, h1) ∧ FM h1 = some (r, h2) ∧ kd h1 59 = 11 ∧ GS h2 ∧ potC h2 ≤ potC h ∧ potS h2 ≤ potS h
def JR (h : Hp) (FX : Hp → Option Int32) (FM : Hp → Option (Int32 × Hp)) : Prop := ∃ r h2, FX h = some r ∧ FM h = some (r, h2) ∧ GS h2 ∧ potC h2 ≤ potC h ∧ potS h2 ≤ potS h
theorem JR_m (g : GS h) {FX : Hp → Option Int32} {FM : Hp → Option (Int32 × Hp)} {r : Int32} {J : Nat → Nat → Int32} (h1 : FX h = some r) (h2 : FM h = some (r, wI h J)) (m : MN (zI h) J) : JR h FX FM := ⟨r, _, h1, h2, GS_w g (QN_of m), Nat.le_refl _, Nat.le_refl _⟩
theorem JB_w (g : GS h) {FL : Hp → Option (Int32 × Hp × Nat × Nat)} {FM : Hp → Option (Int32 × Hp)} {r : Int32} {J1 J2 : Nat → Nat → Int32} (h1 : FL h = some (0, setL (wI h J1) 72 0 r.toInt64, 0, 0)) (h2 : FM (setL (wI h J1) 72 0 r.toInt64) = some (r, wI (setL h 72 0 r.toInt64) J2)) (z : J2 59 0 = 0) (gs : GS (wI h J2)) : JB h FL FM := by
  refine ⟨0, _, 0, 0, r, _, h1, h2, k59 g.1, z, fun _ => ?_, GS_L gs, ?_, ?_⟩
  · show zL (setL h 72 0 r.toInt64) 72 0 = _
    simp [setL, zL, up2, va_up]
  · show 0 + potC h ≤ _
    omega
  · show 0 + potS h ≤ _
    omega
end TOOLS
section EASY2
variable {h : Hp}
theorem t0_d : setI h 59 0 (0 : Int32) = t0 h := rfl
theorem tk_d {k : Int32} : setI (t0 h) 59 0 k = tk h k := rfl
theorem t0_k (a : Nat) : kd (t0 h) a = kd h a := rfl
theorem t0_l (a : Nat) : zl (t0 h) a = zl h a := rfl
theorem t0_r : zR (t0 h) = zR h := rfl
theorem tk_k (a : Nat) (k : Int32) : kd (tk h k) a = kd h a := rfl
theorem tk_l (a : Nat) (k : Int32) : zl (tk h k) a = zl h a := rfl
theorem tk_r (k : Int32) : zR (tk h k) = zR h := rfl
theorem hS_k (a : Nat) : kd (hSit h) a = kd h a := rfl
theorem hS_l (a : Nat) : zl (hSit h) a = zl h a := rfl
theorem hS_r : zR (hSit h) = zR h := rfl
theorem t0_60 : zI (t0 h) 60 = zI h 60 := t0_o (by decide)
theorem tk_60 (k : Int32) : zI (tk h k) 60 = zI h 60 := tk_o (by decide)
theorem hS_60 : zI (hSit h) 60 = zI h 60 := hSit_60
theorem one0 : ((1 : Int32) = 0) = False := eq_false (by decide)
theorem m_thr1 (s : Sh h) (k : Int32) : F_X12_throwsIf 59 1 k h = some (1, setI h 59 0 k) := m_throwsIf s true k
theorem m_thr0 (s : Sh h) (k : Int32) : F_X12_throwsIf 59 0 k h = some (0, h) := m_throwsIf s false k
theorem m_inN {n : Nat} {m v : Int32} (hn : n < 2147483648) (e : nI n - 1 = m) : F_X12_in v 0 m h = some (b2 (isIn v n)) := by
  rw [m_in, ← e, isIn_eq hn]
theorem m_ofX (s : Sh h) {r : Nat} (hr : r < 1000) : F_X12_ofRoom 59 (nI r) 0 h = some (zI h 60 (11 + 4 * r)) := m_ofRoom s (k := 0) hr (by omega)
theorem m_ofY (s : Sh h) {r : Nat} (hr : r < 1000) : F_X12_ofRoom 59 (nI r) 1 h = some (zI h 60 (12 + 4 * r)) := by
  rw [show 12 + 4 * r = 11 + 4 * r + 1 by omega]
  exact m_ofRoom s (k := 1) hr (by omega)
theorem m_ofB (s : Sh h) {r : Nat} (hr : r < 1000) : F_X12_ofRoom 59 (nI r) 2 h = some (zI h 60 (13 + 4 * r)) := by
  rw [show 13 + 4 * r = 11 + 4 * r + 2 by omega]
  exact m_ofRoom s (k := 2) hr (by omega)
theorem m_ofS (s : Sh h) {r : Nat} (hr : r < 1000) : F_X12_ofRoom 59 (nI r) 3 h = some (zI h 60 (14 + 4 * r)) := by
  rw [show 14 + 4 * r = 11 + 4 * r + 3 by omega]
  exact m_ofRoom s (k := 3) hr (by omega)
theorem m_ofL (s : Sh h) {t : Nat} (ht : t < 1000) : F_X12_ofTrunk 59 (nI t) 0 h = some (zI h 60 (53 + 3 * t)) := m_ofTrunk s (k := 0) ht (by omega)
theorem m_ofM (s : Sh h) {t : Nat} (ht : t < 1000) : F_X12_ofTrunk 59 (nI t) 1 h = some (zI h 60 (54 + 3 * t)) := by
  rw [show 54 + 3 * t = 53 + 3 * t + 1 by omega]
  exact m_ofTrunk s (k := 1) ht (by omega)
theorem m_ofI (s : Sh h) {t : Nat} (ht : t < 1000) : F_X12_ofTrunk 59 (nI t) 2 h = some (zI h 60 (55 + 3 * t)) := by
  rw [show 55 + 3 * t = 53 + 3 * t + 2 by omega]
  exact m_ofTrunk s (k := 2) ht (by omega)
/-- t0, then sits -/
def hT (h : Hp) : Hp := hSit (t0 h)
theorem hT_sh (s : Sh h) : Sh (hT h) := hSit_sh (t0_s s)
theorem hT_60 : zI (hT h) 60 = zI h 60 := hSit_60.trans t0_60
theorem hT_i (i : Inv (zI h 60)) : Inv (zI (hT h) 60) := by rw [hT_60]; exact i
theorem hT_s (i : Inv (zI h 60)) : seated (hT h) 66 (nG (zI h 60)) (sit (zI h 60)) := by
  have := hSit_s (t0_i i)
  rw [t0_60] at this
  exact this
theorem hT_s' (i : Inv (zI h 60)) : seated (hT h) 66 (nG (zI (hT h) 60)) (sit (zI h 60)) := by
  rw [hT_60]
  exact hT_s i
theorem hT_m : MN (zI h) (zI (hT h)) := MN_t t0_m hSit_m
theorem hT_z : zI (hT h) 59 0 = 0 := hSit_z.trans t0_z
theorem m_sitsT (s : Sh h) (i : Inv (zI h 60)) : F_X12_sits 59 (t0 h) = some ((), hT h) := m_sits (t0_s s) (t0_i i)
theorem in3 {v : Int32} (q : isIn v 3 = true) : v = 0 ∨ v = 1 ∨ v = 2 := by
  obtain ⟨j, hj, rfl⟩ := isIn_of (by omega) q
  have : j = 0 ∨ j = 1 ∨ j = 2 := by omega
  rcases this with rfl | rfl | rfl
  · exact Or.inl rfl
  · exact Or.inr (Or.inl rfl)
  · exact Or.inr (Or.inr rfl)
theorem in4 {v : Int32} (q : isIn v 4 = true) : v = 0 ∨ v = 1 ∨ v = 2 ∨ v = 3 := by
  obtain ⟨j, hj, rfl⟩ := isIn_of (by omega) q
  have : j = 0 ∨ j = 1 ∨ j = 2 ∨ j = 3 := by omega
  rcases this with rfl | rfl | rfl | rfl
  · exact Or.inl rfl
  · exact Or.inr (Or.inl rfl)
  · exact Or.inr (Or.inr (Or.inl rfl))
  · exact Or.inr (Or.inr (Or.inr rfl))
theorem in7 {v : Int32} (q : isIn v 7 = true) : v = 0 ∨ v = 1 ∨ v = 2 ∨ v = 3 ∨ v = 4 ∨ v = 5 ∨ v = 6 := by
  obtain ⟨j, hj, rfl⟩ := isIn_of (by omega) q
  have : j = 0 ∨ j = 1 ∨ j = 2 ∨ j = 3 ∨ j = 4 ∨ j = 5 ∨ j = 6 := by omega
  rcases this with rfl | rfl | rfl | rfl | rfl | rfl | rfl
  · exact Or.inl rfl
  · exact Or.inr (Or.inl rfl)
  · exact Or.inr (Or.inr (Or.inl rfl))
  · exact Or.inr (Or.inr (Or.inr (Or.inl rfl)))
  · exact Or.inr (Or.inr (Or.inr (Or.inr (Or.inl rfl))))
  · exact Or.inr (Or.inr (Or.inr (Or.inr (Or.inr (Or.inl rfl)))))
  · exact Or.inr (Or.inr (Or.inr (Or.inr (Or.inr (Or.inr rfl)))))
theorem k11 (s : Sh h) : kd h 11 = 7 := by unfold Sh at s; simp only [s]
theorem r11_1 (s : Sh h) : zR h 11 1 = some 12 := by unfold Sh at s; simp only [s]
theorem r11_2 (s : Sh h) : zR h 11 2 = some 13 := by unfold Sh at s; simp only [s]
theorem r11_3 (s : Sh h) : zR h 11 3 = some 14 := by unfold Sh at s; simp only [s]
theorem k12 (s : Sh h) : kd h 12 = 13 := by unfold Sh at s; simp only [s]
theorem k13 (s : Sh h) : kd h 13 = 13 := by unfold Sh at s; simp only [s]
theorem k14 (s : Sh h) : kd h 14 = 13 := by unfold Sh at s; simp only [s]
theorem l12 (s : Sh h) : zl h 12 = 6 := by unfold Sh at s; simp only [s]
theorem l13 (s : Sh h) : zl h 13 = 6 := by unfold Sh at s; simp only [s]
theorem l14 (s : Sh h) : zl h 14 = 6 := by unfold Sh at s; simp only [s]
theorem k15 (s : Sh h) : kd h 15 = 0 := by unfold Sh at s; simp only [s]
theorem k1 (s : Sh h) : kd h 1 = 6 := by unfold Sh at s; simp only [s]
theorem r0_0 (s : Sh h) : zR h 0 0 = some 1 := by unfold Sh at s; simp only [s]
theorem r1_0 (s : Sh h) : zR h 1 0 = some 2 := by unfold Sh at s; simp only [s]
theorem k2 (s : Sh h) : kd h 2 = 12 := by unfold Sh at s; simp only [s]
theorem l2 (s : Sh h) : zl h 2 = 400 := by unfold Sh at s; simp only [s]
theorem r3_18 (s : Sh h) : zR h 3 18 = some 19 := by unfold Sh at s; simp only [s]
theorem r3_19 (s : Sh h) : zR h 3 19 = some 20 := by unfold Sh at s; simp only [s]
theorem k19 (s : Sh h) : kd h 19 = 13 := by unfold Sh at s; simp only [s]
theorem k20 (s : Sh h) : kd h 20 = 13 := by unfold Sh at s; simp only [s]
theorem l19 (s : Sh h) : zl h 19 = 8 := by unfold Sh at s; simp only [s]
theorem l20 (s : Sh h) : zl h 20 = 8 := by unfold Sh at s; simp only [s]
theorem k10 (s : Sh h) : kd h 10 = 15 := by unfold Sh at s; simp only [s]
theorem l10 (s : Sh h) : zl h 10 = 5 := by unfold Sh at s; simp only [s]
theorem r10_g (s : Sh h) {g : Nat} (hg : g < 5) : zR h 10 g = some (21 + 3 * g) := by
  have : g = 0 ∨ g = 1 ∨ g = 2 ∨ g = 3 ∨ g = 4 := by omega
  unfold Sh at s
  rcases this with rfl | rfl | rfl | rfl | rfl <;> simp only [s, Nat.reduceMul, Nat.reduceAdd]
theorem kWg (s : Sh h) {g : Nat} (hg : g < 5) : kd h (21 + 3 * g) = 9 ∧ zR h (21 + 3 * g) 1 = some (22 + 3 * g) ∧ zR h (21 + 3 * g) 2 = some (23 + 3 * g) ∧ kd h (22 + 3 * g) = 13 ∧ zl h (22 + 3 * g) = 400 ∧ kd h (23 + 3 * g) = 13 ∧ zl h (23 + 3 * g) = 32 := by
  have : g = 0 ∨ g = 1 ∨ g = 2 ∨ g = 3 ∨ g = 4 := by omega
  unfold Sh at s
  rcases this with rfl | rfl | rfl | rfl | rfl <;> simp only [s, Nat.reduceMul, Nat.reduceAdd, and_self]
theorem x_has {f : Nat → Int32} (i : Inv f) {T : Nat} {tf : Nat → Nat} (t : TV h T f tf) (v : Int32) : F_X8_has T v h = some (b2 (isIn v (nT f))) := by
  unfold F_X8_has F_X8_has_b0 F_X8_has_b16 F_X8_has_b17
  have hn := iT6 i
  rw [z_g, o_g, gd_d t.1.1, t.2.2.1, iT i]
  by_cases h1 : v < 0
  · rw [if_pos h1]
    simp [isIn, h1, b2]
  · rw [if_neg h1]
    obtain ⟨j, hj, rfl⟩ := nI_of h1
    by_cases h2 : j < nT f
    · rw [if_neg (nI_ge h2 (by omega)), isIn_nI h2 (by omega), b2_t]
    · rw [if_pos (nI_le (by omega) hj)]
      simp [isIn, nI_clamp hj, h2, b2]
end EASY2
