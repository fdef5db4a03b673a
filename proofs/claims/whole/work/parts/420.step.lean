/-! THE LAW: a call more -/
section STEP
variable {h : Hp} {γ : Type} {v : Int32} {R c s : Nat}
/-- the law goes on, with what is left for R calls -/
def ST (v : Int32) (R : Nat) (o : Option ((Int32 × Hp × Nat × Nat) ⊕ γ)) : Prop := ∃ h2 c2 s2, o = some (.inl (v, h2, c2, s2)) ∧ GS h2 ∧ potC h2 + R ≤ c2 ∧ potS h2 + 6 * R ≤ s2
theorem lg_self (a : Int64) : lg_cmp a a = 0 := by
  have n : ¬ a > a := fun q => absurd (Int64.lt_iff_toInt_lt.mp q) (by omega)
  unfold lg_cmp
  rw [if_neg n, if_pos rfl]
theorem thr_g (g : GS h) : F_X12_thrown 59 h = some (zI h 59 0) := by
  unfold F_X12_thrown F_X12_thrown_b0
  rw [gd_d (k59 g.1)]
theorem k72b (s : Sh h) : kd h 72 = 16 ∧ zl h 72 = 1 := by unfold Sh at s; simp only [s, and_self]
theorem t_B {FL : Hp → Option (Int32 × Hp × Nat × Nat)} {FM : Hp → Option (Int32 × Hp)} (j : JB h FL FM) {KK : Hp × Nat × Nat → Option ((Int32 × Hp × Nat × Nat) ⊕ γ)} {E1 E2 : Hp → Nat → Nat → Option ((Int32 × Hp × Nat × Nat) ⊕ γ)} (hK : ∀ x, KK x = some (.inl (v, x))) (hc : potC h + (R + 1) ≤ c) (hs : potS h + 6 * (R + 1) ≤ s) : ST v R (ob4 (FL h) fun r61 h62 n63 n64 => gd (decide (n63 ≤ c ∧ n64 ≤ s)) <| ob (some (c - n63)) fun n65 => ob (some (s - n64)) fun n66 => ob2 (FM h62) fun r71 h72 => gd (decide (kd h62 59 = 11)) <| ob (F_X12_thrown 59 h72) fun r75 => gd (decide (kd h72 59 = 11)) <| (if r75 = r61 then (if r61 = 0 then gd (decide (kd h72 72 = 16)) <| gd (ix (0 : Int32) (zl h72 72)) <| (if (lg_cmp (zL h72 72 ((0 : Int32)).toNatClampNeg) r71.toInt64) = 0 then KK (h72, n65, n66) else E1 h72 n65 n66) else KK (h72, n65, n66)) else E2 h72 n65 n66)) := by
  obtain ⟨k, h1, n1, m1, b, h2, e1, e2, e3, e4, e5, g, e6, e7⟩ := j
  refine ⟨h2, c - n1, s - m1, ?_, g, by omega, by omega⟩
  rw [e1, ob4_s, gd_d ⟨by omega, by omega⟩, ob_s, ob_s, e2, ob2_s, gd_d e3, thr_g g, ob_s, gd_d (k59 g.1), if_pos e4]
  by_cases q : k = 0
  · rw [if_pos q, gd_d (k72b g.1).1, (k72b g.1).2, show ix (0 : Int32) 1 = true from by decide, gd_t, show ((0 : Int32)).toNatClampNeg = 0 from rfl, e5 q, if_pos (lg_self _), hK]
  · rw [if_neg q, hK]
theorem t_A {FX FM : Hp → Option (Int32 × Hp)} (g0 : GS h) (j : JA h FX FM) {KK : Hp × Nat × Nat → Option ((Int32 × Hp × Nat × Nat) ⊕ γ)} {E1 : Hp → Option ((Int32 × Hp × Nat × Nat) ⊕ γ)} (hK : ∀ x, KK x = some (.inl (v, x))) (hc : potC h + (R + 1) ≤ c) (hs : potS h + 6 * (R + 1) ≤ s) : ST v R (ob2 (FX h) fun r34 h35 => gd (decide (kd h 0 = 10)) <| ob2 (FM h35) fun r43 h44 => gd (decide (kd h35 59 = 11)) <| (if r34 = r43 then KK (h44, c, s) else E1 h44)) := by
  obtain ⟨r, h1, h2, e1, e2, e3, g, e6, e7⟩ := j
  refine ⟨h2, c, s, ?_, g, by omega, by omega⟩
  rw [e1, ob2_s, gd_d (k0 g0.1), e2, ob2_s, gd_d e3, if_pos rfl, hK]
theorem t_R {FX : Hp → Option Int32} {FM : Hp → Option (Int32 × Hp)} (g0 : GS h) (j : JR h FX FM) {KK : Hp × Nat × Nat → Option ((Int32 × Hp × Nat × Nat) ⊕ γ)} {E1 : Hp → Option ((Int32 × Hp × Nat × Nat) ⊕ γ)} (hK : ∀ x, KK x = some (.inl (v, x))) (hc : potC h + (R + 1) ≤ c) (hs : potS h + 6 * (R + 1) ≤ s) : ST v R (ob (FX h) fun r34 => gd (decide (kd h 0 = 10)) <| ob2 (FM h) fun r43 h44 => gd (decide (kd h 59 = 11)) <| (if r34 = r43 then KK (h44, c, s) else E1 h44)) := by
  obtain ⟨r, h2, e1, e2, g, e6, e7⟩ := j
  refine ⟨h2, c, s, ?_, g, by omega, by omega⟩
  rw [e1, ob_s, gd_d (k0 g0.1), e2, ob2_s, gd_d (k59 g0.1), if_pos rfl, hK]
theorem t_W {FL : Hp → Option (Int32 × Hp × Nat × Nat)} {FM : Hp → Option (Unit × Hp)} (j : JW h FL FM) {KK : Hp × Nat × Nat → Option ((Int32 × Hp × Nat × Nat) ⊕ γ)} {E2 : Hp → Nat → Nat → Option ((Int32 × Hp × Nat × Nat) ⊕ γ)} (hK : ∀ x, KK x = some (.inl (v, x))) (hc : potC h + (R + 1) ≤ c) (hs : potS h + 6 * (R + 1) ≤ s) : ST v R (ob4 (FL h) fun r61 h62 n63 n64 => gd (decide (n63 ≤ c ∧ n64 ≤ s)) <| ob (some (c - n63)) fun n65 => ob (some (s - n64)) fun n66 => ob2 (FM h62) fun _ h72 => gd (decide (kd h62 59 = 11)) <| ob (F_X12_thrown 59 h72) fun r75 => gd (decide (kd h72 59 = 11)) <| (if r75 = r61 then KK (h72, n65, n66) else E2 h72 n65 n66)) := by
  obtain ⟨k, h1, n1, m1, h2, e1, e2, e3, e4, g, e6, e7⟩ := j
  refine ⟨h2, c - n1, s - m1, ?_, g, by omega, by omega⟩
  rw [e1, ob4_s, gd_d ⟨by omega, by omega⟩, ob_s, ob_s, e2, ob2_s, gd_d e3, thr_g g, ob_s, gd_d (k59 g.1), if_pos e4, hK]
theorem t_I (g0 : GS h) (j : JI h) {KK : Hp × Nat × Nat → Option ((Int32 × Hp × Nat × Nat) ⊕ γ)} (hK : ∀ x, KK x = some (.inl (v, x))) (hc : potC h + (R + 1) ≤ c) (hs : potS h + 6 * (R + 1) ≤ s) : ST v R (ob4 (F_X11_image 0 h) fun _ h719 n720 n721 => gd (decide (n720 ≤ c ∧ n721 ≤ s)) <| ob (some (c - n720)) fun n722 => ob (some (s - n721)) fun n723 => gd (decide (kd h 0 = 10)) <| ob2 (F_X12_image 59 h719) fun _ h730 => gd (decide (kd h719 59 = 11)) <| KK (h730, n722, n723)) := by
  obtain ⟨h1, n1, m1, h2, e1, e2, e3, g, e6, e7⟩ := j
  refine ⟨h2, c - n1, s - m1, ?_, g, by omega, by omega⟩
  rw [e1, ob4_s, gd_d ⟨by omega, by omega⟩, ob_s, ob_s, gd_d (k0 g0.1), e2, ob2_s, gd_d e3, hK]
end STEP
